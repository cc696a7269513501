-- written by wip/gen/gen.py
abbrev rm_X7_submit : Room := { frames := 4, cells := 0, slots := 0, locals := 104 }
def f_X7_submit (N : Nat) (v1 : Int32) (v2 : Int32) (v3 : Int32) (X : XT) : Option (Int32 × XT) := m_bi (f_X3_refusalToEnter N v1 v2 X) fun r_1 X_1 => if r_1 = 0 then (m_bv (f_X2_push N X_1) fun X_6 => m_bi (f_X3_enter N v1 v2 v3 X_6) fun r_8 X_8 => some (r_8, X_8)) else (some (r_1, X_1))
set_option maxHeartbeats 4000000 in
set_option maxRecDepth 100000 in
theorem c_X7_submit (l : Launch) (D : va_G) (a : Nat → Nat) (cy : Nat → ClassId) (hG : m_inj 131 a) (N : Nat) (v1 : Int32) (v2 : Int32) (v3 : Int32) (X : XT) {r0 : Int32} {X0 : XT} (hf0 : f_X7_submit N v1 v2 v3 X = some (r0, X0)) : Met l yX7_submit (Cond.code yX7_submit cX7_submit 5 (some .int) :: m_tbl) rm_X7_submit (va_Pc [.ref (a 126), .int v1, .int v2, .int v3] (m_PX D (m_tc cy) (m_WC a cy) (m_ZC a) X)) (m_QI D (m_WC a cy) (m_AC a) r0 X0) 0 0 (m_AC a) := by
  refine m_met (own := RX7) hy_X7_submit rfl (Nat.le_of_ble_eq_true rfl) (m_wl_D hG _) m_ZC_keep ?_
  intro p e s m args below meth c C ls hl hP hS
  have hx := C.1.1
  have hb := C.1.2.1
  have hl : lv_has ls 5 [(0, .ref (a 126)), (1, .int v1), (2, .int v2), (3, .int v3)] := hl
  unfold f_X7_submit at hf0
  suffices K : ∀ (H : Heap) (locs : List Loc), va_P D vwCl (m_WC a cy X) H → va_S (m_AC a) s.heap H locs → W p l e rm_X7_submit s m args below meth c H locs 0 0 (MQ below (m_QI D (m_WC a cy) (m_AC a) r0 X0) args s 0 0 (m_AC a)) (F0 m 0 ls []) from K _ _ hP hS
  clear hP hS
  intro H locs hP hS
  refine lv_aload_n hx hb dX7_submit_0 rfl (lv_at hl 0 rfl) ?_
  refine m_get C hP mC_126 rfl inX7 0 (by decide) wf_X7_10 rfl dX7_submit_1 ?_
  refine lv_iload_n hx hb dX7_submit_4 rfl (lv_at hl 1 rfl) ?_
  refine lv_iload_n hx hb dX7_submit_5 rfl (lv_at hl 2 rfl) ?_
  obtain ⟨r_1, X_1, h_1, hf2⟩ := m_bi_s hf0
  clear hf0
  refine m_callVi (q := (RX3, TX3, 12)) C [.int v1, .int v2] [] (c_X3_refusalToEnter l D a cy hG N _ _ _ h_1) (m_goodV wl_X7_33 wi_X3_refusalToEnter ws_X3_refusalToEnter wn_X3 wc_X3_refusalToEnter) ⟨rfl, rfl⟩ hv_X3_refusalToEnter ⟨Nat.le_of_ble_eq_true rfl, Nat.le_of_ble_eq_true rfl⟩ rfl mC_0 hP hS rfl hl.1 rfl (Nat.le_of_ble_eq_true rfl) dX7_submit_6 (fun H locs hP hS => ?_)
  refine lv_istore (lv' := [(4, .int r_1), (0, .ref (a 126)), (1, .int v1), (2, .int v2), (3, .int v3)]) hx hb dX7_submit_9 hl (by decide) rfl (fun ls hl => ?_)
  refine lv_iload hx hb dX7_submit_11 (lv_at hl 0 rfl) ?_
  refine lv_if_eq (tgt := 19) hx hb dX7_submit_13 (by decide) (fun c_3 => ?_) (fun c_3 => ?_)
  · have hf4 := m_it c_3 hf2
    clear hf2
    refine lv_aload_n hx hb dX7_submit_19 rfl (lv_at hl 1 rfl) ?_
    refine m_get C hP mC_126 rfl inX7 2 (by decide) wf_X7_22 rfl dX7_submit_20 ?_
    refine lv_aload_n hx hb dX7_submit_23 rfl (lv_at hl 1 rfl) ?_
    refine m_get C hP mC_126 rfl inX7 0 (by decide) wf_X7_10 rfl dX7_submit_24 ?_
    obtain ⟨X_6, h_6, hf7⟩ := m_bv_s hf4
    clear hf4
    refine m_callVv (q := (RX2, TX2, 3)) C [.ref (a 0)] [] (c_X2_push l D a cy hG N _ h_6) (m_goodV wl_X7_37 wi_X2_push ws_X2_push wn_X2 wc_X2_push) ⟨rfl, rfl⟩ hv_X2_push ⟨Nat.le_of_ble_eq_true rfl, Nat.le_of_ble_eq_true rfl⟩ rfl mC_127 hP hS rfl hl.1 rfl (Nat.le_of_ble_eq_true rfl) dX7_submit_27 (fun H locs hP hS => ?_)
    refine lv_aload_n hx hb dX7_submit_30 rfl (lv_at hl 1 rfl) ?_
    refine m_get C hP mC_126 rfl inX7 0 (by decide) wf_X7_10 rfl dX7_submit_31 ?_
    refine lv_iload_n hx hb dX7_submit_34 rfl (lv_at hl 2 rfl) ?_
    refine lv_iload_n hx hb dX7_submit_35 rfl (lv_at hl 3 rfl) ?_
    refine lv_iload_n hx hb dX7_submit_36 rfl (lv_at hl 4 rfl) ?_
    obtain ⟨r_8, X_8, h_8, hf9⟩ := m_bi_s hf7
    clear hf7
    refine m_callVi (q := (RX3, TX3, 12)) C [.int v1, .int v2, .int v3] [] (c_X3_enter l D a cy hG N _ _ _ _ h_8) (m_goodV wl_X7_41 wi_X3_enter ws_X3_enter wn_X3 wc_X3_enter) ⟨rfl, rfl⟩ hv_X3_enter ⟨Nat.le_of_ble_eq_true rfl, Nat.le_of_ble_eq_true rfl⟩ rfl mC_0 hP hS rfl hl.1 rfl (Nat.le_of_ble_eq_true rfl) dX7_submit_37 (fun H locs hP hS => ?_)
    exact m_iret C hP hS dX7_submit_40 hf9
  · have hf5 := m_ie c_3 hf2
    clear hf2
    refine lv_iload hx hb dX7_submit_16 (lv_at hl 0 rfl) ?_
    exact m_iret C hP hS dX7_submit_18 hf5
abbrev rm_X7_fail : Room := { frames := 4, cells := 0, slots := 0, locals := 104 }
def f_X7_fail (N : Nat) (v1 : Int32) (X : XT) : Option (Int32 × XT) := m_bi (f_X3_isClient N v1 X) fun r_1 X_1 => if r_1 = 0 then (some ((-1), X_1)) else (m_bv (f_X2_push N X_1) fun X_6 => m_bi (f_X3_loseClient N v1 X_6) fun r_8 X_8 => some (r_8, X_8))
set_option maxHeartbeats 4000000 in
set_option maxRecDepth 100000 in
theorem c_X7_fail (l : Launch) (D : va_G) (a : Nat → Nat) (cy : Nat → ClassId) (hG : m_inj 131 a) (N : Nat) (v1 : Int32) (X : XT) {r0 : Int32} {X0 : XT} (hf0 : f_X7_fail N v1 X = some (r0, X0)) : Met l yX7_fail (Cond.code yX7_fail cX7_fail 2 (some .int) :: m_tbl) rm_X7_fail (va_Pc [.ref (a 126), .int v1] (m_PX D (m_tc cy) (m_WC a cy) (m_ZC a) X)) (m_QI D (m_WC a cy) (m_AC a) r0 X0) 0 0 (m_AC a) := by
  refine m_met (own := RX7) hy_X7_fail rfl (Nat.le_of_ble_eq_true rfl) (m_wl_D hG _) m_ZC_keep ?_
  intro p e s m args below meth c C ls hl hP hS
  have hx := C.1.1
  have hb := C.1.2.1
  have hl : lv_has ls 2 [(0, .ref (a 126)), (1, .int v1)] := hl
  unfold f_X7_fail at hf0
  suffices K : ∀ (H : Heap) (locs : List Loc), va_P D vwCl (m_WC a cy X) H → va_S (m_AC a) s.heap H locs → W p l e rm_X7_fail s m args below meth c H locs 0 0 (MQ below (m_QI D (m_WC a cy) (m_AC a) r0 X0) args s 0 0 (m_AC a)) (F0 m 0 ls []) from K _ _ hP hS
  clear hP hS
  intro H locs hP hS
  refine lv_iload_n hx hb dX7_fail_0 rfl (lv_at hl 1 rfl) ?_
  obtain ⟨r_1, X_1, h_1, hf2⟩ := m_bi_s hf0
  clear hf0
  refine m_callSi C [.int v1] [] (c_X3_isClient l D a cy hG N _ _ h_1) (m_goodS wl_X7_45 wst_X3_isClient wn_X3 wc_X3_isClient) ⟨rfl, rfl⟩ hv_X3_isClient ⟨Nat.le_of_ble_eq_true rfl, Nat.le_of_ble_eq_true rfl⟩ hP hS rfl hl.1 rfl (Nat.le_of_ble_eq_true rfl) dX7_fail_1 (fun H locs hP hS => ?_)
  refine lv_if_ne (tgt := 9) hx hb dX7_fail_4 (by decide) (fun c_3 => ?_) (fun c_3 => ?_)
  · have hf4 := m_ie c_3 hf2
    clear hf2
    refine lv_aload_n hx hb dX7_fail_9 rfl (lv_at hl 0 rfl) ?_
    refine m_get C hP mC_126 rfl inX7 2 (by decide) wf_X7_22 rfl dX7_fail_10 ?_
    refine lv_aload_n hx hb dX7_fail_13 rfl (lv_at hl 0 rfl) ?_
    refine m_get C hP mC_126 rfl inX7 0 (by decide) wf_X7_10 rfl dX7_fail_14 ?_
    obtain ⟨X_6, h_6, hf7⟩ := m_bv_s hf4
    clear hf4
    refine m_callVv (q := (RX2, TX2, 3)) C [.ref (a 0)] [] (c_X2_push l D a cy hG N _ h_6) (m_goodV wl_X7_37 wi_X2_push ws_X2_push wn_X2 wc_X2_push) ⟨rfl, rfl⟩ hv_X2_push ⟨Nat.le_of_ble_eq_true rfl, Nat.le_of_ble_eq_true rfl⟩ rfl mC_127 hP hS rfl hl.1 rfl (Nat.le_of_ble_eq_true rfl) dX7_fail_17 (fun H locs hP hS => ?_)
    refine lv_aload_n hx hb dX7_fail_20 rfl (lv_at hl 0 rfl) ?_
    refine m_get C hP mC_126 rfl inX7 0 (by decide) wf_X7_10 rfl dX7_fail_21 ?_
    refine lv_iload_n hx hb dX7_fail_24 rfl (lv_at hl 1 rfl) ?_
    obtain ⟨r_8, X_8, h_8, hf9⟩ := m_bi_s hf7
    clear hf7
    refine m_callVi (q := (RX3, TX3, 12)) C [.int v1] [] (c_X3_loseClient l D a cy hG N _ _ h_8) (m_goodV wl_X7_49 wi_X3_loseClient ws_X3_loseClient wn_X3 wc_X3_loseClient) ⟨rfl, rfl⟩ hv_X3_loseClient ⟨Nat.le_of_ble_eq_true rfl, Nat.le_of_ble_eq_true rfl⟩ rfl mC_0 hP hS rfl hl.1 rfl (Nat.le_of_ble_eq_true rfl) dX7_fail_25 (fun H locs hP hS => ?_)
    exact m_iret C hP hS dX7_fail_28 hf9
  · have hf5 := m_it c_3 hf2
    clear hf2
    refine lv_iconst (v := (-1)) hx hb dX7_fail_7 (by decide) ?_
    exact m_iret C hP hS dX7_fail_8 hf5
abbrev rm_X7_withdraw : Room := { frames := 4, cells := 0, slots := 0, locals := 104 }
def f_X7_withdraw (N : Nat) (v1 : Int32) (X : XT) : Option (Int32 × XT) := m_bi (f_X3_refusalToTakeBack N v1 X) fun r_1 X_1 => if r_1 = 0 then (m_bv (f_X2_push N X_1) fun X_6 => m_bi (f_X3_takeBack N v1 X_6) fun r_8 X_8 => some (r_8, X_8)) else (some (r_1, X_1))
set_option maxHeartbeats 4000000 in
set_option maxRecDepth 100000 in
theorem c_X7_withdraw (l : Launch) (D : va_G) (a : Nat → Nat) (cy : Nat → ClassId) (hG : m_inj 131 a) (N : Nat) (v1 : Int32) (X : XT) {r0 : Int32} {X0 : XT} (hf0 : f_X7_withdraw N v1 X = some (r0, X0)) : Met l yX7_withdraw (Cond.code yX7_withdraw cX7_withdraw 3 (some .int) :: m_tbl) rm_X7_withdraw (va_Pc [.ref (a 126), .int v1] (m_PX D (m_tc cy) (m_WC a cy) (m_ZC a) X)) (m_QI D (m_WC a cy) (m_AC a) r0 X0) 0 0 (m_AC a) := by
  refine m_met (own := RX7) hy_X7_withdraw rfl (Nat.le_of_ble_eq_true rfl) (m_wl_D hG _) m_ZC_keep ?_
  intro p e s m args below meth c C ls hl hP hS
  have hx := C.1.1
  have hb := C.1.2.1
  have hl : lv_has ls 3 [(0, .ref (a 126)), (1, .int v1)] := hl
  unfold f_X7_withdraw at hf0
  suffices K : ∀ (H : Heap) (locs : List Loc), va_P D vwCl (m_WC a cy X) H → va_S (m_AC a) s.heap H locs → W p l e rm_X7_withdraw s m args below meth c H locs 0 0 (MQ below (m_QI D (m_WC a cy) (m_AC a) r0 X0) args s 0 0 (m_AC a)) (F0 m 0 ls []) from K _ _ hP hS
  clear hP hS
  intro H locs hP hS
  refine lv_aload_n hx hb dX7_withdraw_0 rfl (lv_at hl 0 rfl) ?_
  refine m_get C hP mC_126 rfl inX7 0 (by decide) wf_X7_10 rfl dX7_withdraw_1 ?_
  refine lv_iload_n hx hb dX7_withdraw_4 rfl (lv_at hl 1 rfl) ?_
  obtain ⟨r_1, X_1, h_1, hf2⟩ := m_bi_s hf0
  clear hf0
  refine m_callVi (q := (RX3, TX3, 12)) C [.int v1] [] (c_X3_refusalToTakeBack l D a cy hG N _ _ h_1) (m_goodV wl_X7_53 wi_X3_refusalToTakeBack ws_X3_refusalToTakeBack wn_X3 wc_X3_refusalToTakeBack) ⟨rfl, rfl⟩ hv_X3_refusalToTakeBack ⟨Nat.le_of_ble_eq_true rfl, Nat.le_of_ble_eq_true rfl⟩ rfl mC_0 hP hS rfl hl.1 rfl (Nat.le_of_ble_eq_true rfl) dX7_withdraw_5 (fun H locs hP hS => ?_)
  refine lv_istore_n (lv' := [(2, .int r_1), (0, .ref (a 126)), (1, .int v1)]) hx hb dX7_withdraw_8 rfl hl (by decide) rfl (fun ls hl => ?_)
  refine lv_iload_n hx hb dX7_withdraw_9 rfl (lv_at hl 0 rfl) ?_
  refine lv_if_eq (tgt := 15) hx hb dX7_withdraw_10 (by decide) (fun c_3 => ?_) (fun c_3 => ?_)
  · have hf4 := m_it c_3 hf2
    clear hf2
    refine lv_aload_n hx hb dX7_withdraw_15 rfl (lv_at hl 1 rfl) ?_
    refine m_get C hP mC_126 rfl inX7 2 (by decide) wf_X7_22 rfl dX7_withdraw_16 ?_
    refine lv_aload_n hx hb dX7_withdraw_19 rfl (lv_at hl 1 rfl) ?_
    refine m_get C hP mC_126 rfl inX7 0 (by decide) wf_X7_10 rfl dX7_withdraw_20 ?_
    obtain ⟨X_6, h_6, hf7⟩ := m_bv_s hf4
    clear hf4
    refine m_callVv (q := (RX2, TX2, 3)) C [.ref (a 0)] [] (c_X2_push l D a cy hG N _ h_6) (m_goodV wl_X7_37 wi_X2_push ws_X2_push wn_X2 wc_X2_push) ⟨rfl, rfl⟩ hv_X2_push ⟨Nat.le_of_ble_eq_true rfl, Nat.le_of_ble_eq_true rfl⟩ rfl mC_127 hP hS rfl hl.1 rfl (Nat.le_of_ble_eq_true rfl) dX7_withdraw_23 (fun H locs hP hS => ?_)
    refine lv_aload_n hx hb dX7_withdraw_26 rfl (lv_at hl 1 rfl) ?_
    refine m_get C hP mC_126 rfl inX7 0 (by decide) wf_X7_10 rfl dX7_withdraw_27 ?_
    refine lv_iload_n hx hb dX7_withdraw_30 rfl (lv_at hl 2 rfl) ?_
    obtain ⟨r_8, X_8, h_8, hf9⟩ := m_bi_s hf7
    clear hf7
    refine m_callVi (q := (RX3, TX3, 12)) C [.int v1] [] (c_X3_takeBack l D a cy hG N _ _ h_8) (m_goodV wl_X7_56 wi_X3_takeBack ws_X3_takeBack wn_X3 wc_X3_takeBack) ⟨rfl, rfl⟩ hv_X3_takeBack ⟨Nat.le_of_ble_eq_true rfl, Nat.le_of_ble_eq_true rfl⟩ rfl mC_0 hP hS rfl hl.1 rfl (Nat.le_of_ble_eq_true rfl) dX7_withdraw_31 (fun H locs hP hS => ?_)
    exact m_iret C hP hS dX7_withdraw_34 hf9
  · have hf5 := m_ie c_3 hf2
    clear hf2
    refine lv_iload_n hx hb dX7_withdraw_13 rfl (lv_at hl 0 rfl) ?_
    exact m_iret C hP hS dX7_withdraw_14 hf5
abbrev rm_X7_crash : Room := { frames := 4, cells := 0, slots := 0, locals := 104 }
def f_X7_crash (N : Nat) (X : XT) : Option (Int32 × XT) := m_bv (f_X2_push N X) fun X_1 => m_bi (f_X3_loseAll N X_1) fun r_3 X_3 => some (r_3, X_3)
set_option maxHeartbeats 4000000 in
set_option maxRecDepth 100000 in
theorem c_X7_crash (l : Launch) (D : va_G) (a : Nat → Nat) (cy : Nat → ClassId) (hG : m_inj 131 a) (N : Nat) (X : XT) {r0 : Int32} {X0 : XT} (hf0 : f_X7_crash N X = some (r0, X0)) : Met l yX7_crash (Cond.code yX7_crash cX7_crash 1 (some .int) :: m_tbl) rm_X7_crash (va_Pc [.ref (a 126)] (m_PX D (m_tc cy) (m_WC a cy) (m_ZC a) X)) (m_QI D (m_WC a cy) (m_AC a) r0 X0) 0 0 (m_AC a) := by
  refine m_met (own := RX7) hy_X7_crash rfl (Nat.le_of_ble_eq_true rfl) (m_wl_D hG _) m_ZC_keep ?_
  intro p e s m args below meth c C ls hl hP hS
  have hx := C.1.1
  have hb := C.1.2.1
  have hl : lv_has ls 1 [(0, .ref (a 126))] := hl
  unfold f_X7_crash at hf0
  suffices K : ∀ (H : Heap) (locs : List Loc), va_P D vwCl (m_WC a cy X) H → va_S (m_AC a) s.heap H locs → W p l e rm_X7_crash s m args below meth c H locs 0 0 (MQ below (m_QI D (m_WC a cy) (m_AC a) r0 X0) args s 0 0 (m_AC a)) (F0 m 0 ls []) from K _ _ hP hS
  clear hP hS
  intro H locs hP hS
  refine lv_aload_n hx hb dX7_crash_0 rfl (lv_at hl 0 rfl) ?_
  refine m_get C hP mC_126 rfl inX7 2 (by decide) wf_X7_22 rfl dX7_crash_1 ?_
  refine lv_aload_n hx hb dX7_crash_4 rfl (lv_at hl 0 rfl) ?_
  refine m_get C hP mC_126 rfl inX7 0 (by decide) wf_X7_10 rfl dX7_crash_5 ?_
  obtain ⟨X_1, h_1, hf2⟩ := m_bv_s hf0
  clear hf0
  refine m_callVv (q := (RX2, TX2, 3)) C [.ref (a 0)] [] (c_X2_push l D a cy hG N _ h_1) (m_goodV wl_X7_37 wi_X2_push ws_X2_push wn_X2 wc_X2_push) ⟨rfl, rfl⟩ hv_X2_push ⟨Nat.le_of_ble_eq_true rfl, Nat.le_of_ble_eq_true rfl⟩ rfl mC_127 hP hS rfl hl.1 rfl (Nat.le_of_ble_eq_true rfl) dX7_crash_8 (fun H locs hP hS => ?_)
  refine lv_aload_n hx hb dX7_crash_11 rfl (lv_at hl 0 rfl) ?_
  refine m_get C hP mC_126 rfl inX7 0 (by decide) wf_X7_10 rfl dX7_crash_12 ?_
  obtain ⟨r_3, X_3, h_3, hf4⟩ := m_bi_s hf2
  clear hf2
  refine m_callVi (q := (RX3, TX3, 12)) C [] [] (c_X3_loseAll l D a cy hG N _ h_3) (m_goodV wl_X7_59 wi_X3_loseAll ws_X3_loseAll wn_X3 wc_X3_loseAll) ⟨rfl, rfl⟩ hv_X3_loseAll ⟨Nat.le_of_ble_eq_true rfl, Nat.le_of_ble_eq_true rfl⟩ rfl mC_0 hP hS rfl hl.1 rfl (Nat.le_of_ble_eq_true rfl) dX7_crash_15 (fun H locs hP hS => ?_)
  exact m_iret C hP hS dX7_crash_18 hf4
abbrev rm_X7_tick : Room := { frames := 5, cells := 0, slots := 0, locals := 117 }
def f_X7_tick (N : Nat) (v1 : Int32) (X : XT) : Option (Int32 × XT) := if v1 < 1 then (some ((-2), X)) else (if v1 ≤ 99 then (m_bv (f_X2_push N X) fun X_7 => m_bi (f_X3_passTicks N v1 X_7) fun r_9 X_9 => some (r_9, X_9)) else (some ((-2), X)))
set_option maxHeartbeats 4000000 in
set_option maxRecDepth 100000 in
theorem c_X7_tick (l : Launch) (D : va_G) (a : Nat → Nat) (cy : Nat → ClassId) (hG : m_inj 131 a) (N : Nat) (v1 : Int32) (X : XT) {r0 : Int32} {X0 : XT} (hf0 : f_X7_tick N v1 X = some (r0, X0)) : Met l yX7_tick (Cond.code yX7_tick cX7_tick 2 (some .int) :: m_tbl) rm_X7_tick (va_Pc [.ref (a 126), .int v1] (m_PX D (m_tc cy) (m_WC a cy) (m_ZC a) X)) (m_QI D (m_WC a cy) (m_AC a) r0 X0) 0 0 (m_AC a) := by
  refine m_met (own := RX7) hy_X7_tick rfl (Nat.le_of_ble_eq_true rfl) (m_wl_D hG _) m_ZC_keep ?_
  intro p e s m args below meth c C ls hl hP hS
  have hx := C.1.1
  have hb := C.1.2.1
  have hl : lv_has ls 2 [(0, .ref (a 126)), (1, .int v1)] := hl
  unfold f_X7_tick at hf0
  suffices K : ∀ (H : Heap) (locs : List Loc), va_P D vwCl (m_WC a cy X) H → va_S (m_AC a) s.heap H locs → W p l e rm_X7_tick s m args below meth c H locs 0 0 (MQ below (m_QI D (m_WC a cy) (m_AC a) r0 X0) args s 0 0 (m_AC a)) (F0 m 0 ls []) from K _ _ hP hS
  clear hP hS
  intro H locs hP hS
  refine lv_iload_n hx hb dX7_tick_0 rfl (lv_at hl 1 rfl) ?_
  refine lv_iconst (v := 1) hx hb dX7_tick_1 (by decide) ?_
  refine lv_icmp_lt (tgt := 11) hx hb dX7_tick_2 (by decide) (fun c_1 => ?_) (fun c_1 => ?_)
  · have hf2 := m_it c_1 hf0
    clear hf0
    refine lv_bipush (v := (-2)) hx hb dX7_tick_11 (by decide) ?_
    exact m_iret C hP hS dX7_tick_13 hf2
  · have hf3 := m_ie c_1 hf0
    clear hf0
    refine lv_iload_n hx hb dX7_tick_5 rfl (lv_at hl 1 rfl) ?_
    refine lv_bipush (v := 99) hx hb dX7_tick_6 (by decide) ?_
    refine lv_icmp_le (tgt := 14) hx hb dX7_tick_8 (by decide) (fun c_4 => ?_) (fun c_4 => ?_)
    · have hf5 := m_it c_4 hf3
      clear hf3
      refine lv_aload_n hx hb dX7_tick_14 rfl (lv_at hl 0 rfl) ?_
      refine m_get C hP mC_126 rfl inX7 2 (by decide) wf_X7_22 rfl dX7_tick_15 ?_
      refine lv_aload_n hx hb dX7_tick_18 rfl (lv_at hl 0 rfl) ?_
      refine m_get C hP mC_126 rfl inX7 0 (by decide) wf_X7_10 rfl dX7_tick_19 ?_
      obtain ⟨X_7, h_7, hf8⟩ := m_bv_s hf5
      clear hf5
      refine m_callVv (q := (RX2, TX2, 3)) C [.ref (a 0)] [] (c_X2_push l D a cy hG N _ h_7) (m_goodV wl_X7_37 wi_X2_push ws_X2_push wn_X2 wc_X2_push) ⟨rfl, rfl⟩ hv_X2_push ⟨Nat.le_of_ble_eq_true rfl, Nat.le_of_ble_eq_true rfl⟩ rfl mC_127 hP hS rfl hl.1 rfl (Nat.le_of_ble_eq_true rfl) dX7_tick_22 (fun H locs hP hS => ?_)
      refine lv_aload_n hx hb dX7_tick_25 rfl (lv_at hl 0 rfl) ?_
      refine m_get C hP mC_126 rfl inX7 0 (by decide) wf_X7_10 rfl dX7_tick_26 ?_
      refine lv_iload_n hx hb dX7_tick_29 rfl (lv_at hl 1 rfl) ?_
      obtain ⟨r_9, X_9, h_9, hf10⟩ := m_bi_s hf8
      clear hf8
      refine m_callVi (q := (RX3, TX3, 12)) C [.int v1] [] (c_X3_passTicks l D a cy hG N _ _ h_9) (m_goodV wl_X7_63 wi_X3_passTicks ws_X3_passTicks wn_X3 wc_X3_passTicks) ⟨rfl, rfl⟩ hv_X3_passTicks ⟨Nat.le_of_ble_eq_true rfl, Nat.le_of_ble_eq_true rfl⟩ rfl mC_0 hP hS rfl hl.1 rfl (Nat.le_of_ble_eq_true rfl) dX7_tick_30 (fun H locs hP hS => ?_)
      exact m_iret C hP hS dX7_tick_33 hf10
    · have hf6 := m_ie c_4 hf3
      clear hf3
      refine lv_bipush (v := (-2)) hx hb dX7_tick_11 (by decide) ?_
      exact m_iret C hP hS dX7_tick_13 hf6
abbrev rm_X7_set : Room := { frames := 4, cells := 0, slots := 0, locals := 104 }
def f_X7_set (N : Nat) (v1 : Int32) (v2 : Int32) (X : XT) : Option (Int32 × XT) := m_bi (f_X6_refusal N v1 v2 X) fun r_1 X_1 => if r_1 = 0 then (m_bv (f_X2_push N X_1) fun X_6 => m_bi (f_X3_change N v1 v2 X_6) fun r_8 X_8 => some (r_8, X_8)) else (some (r_1, X_1))
set_option maxHeartbeats 4000000 in
set_option maxRecDepth 100000 in
theorem c_X7_set (l : Launch) (D : va_G) (a : Nat → Nat) (cy : Nat → ClassId) (hG : m_inj 131 a) (N : Nat) (v1 : Int32) (v2 : Int32) (X : XT) {r0 : Int32} {X0 : XT} (hf0 : f_X7_set N v1 v2 X = some (r0, X0)) : Met l yX7_set (Cond.code yX7_set cX7_set 4 (some .int) :: m_tbl) rm_X7_set (va_Pc [.ref (a 126), .int v1, .int v2] (m_PX D (m_tc cy) (m_WC a cy) (m_ZC a) X)) (m_QI D (m_WC a cy) (m_AC a) r0 X0) 0 0 (m_AC a) := by
  refine m_met (own := RX7) hy_X7_set rfl (Nat.le_of_ble_eq_true rfl) (m_wl_D hG _) m_ZC_keep ?_
  intro p e s m args below meth c C ls hl hP hS
  have hx := C.1.1
  have hb := C.1.2.1
  have hl : lv_has ls 4 [(0, .ref (a 126)), (1, .int v1), (2, .int v2)] := hl
  unfold f_X7_set at hf0
  suffices K : ∀ (H : Heap) (locs : List Loc), va_P D vwCl (m_WC a cy X) H → va_S (m_AC a) s.heap H locs → W p l e rm_X7_set s m args below meth c H locs 0 0 (MQ below (m_QI D (m_WC a cy) (m_AC a) r0 X0) args s 0 0 (m_AC a)) (F0 m 0 ls []) from K _ _ hP hS
  clear hP hS
  intro H locs hP hS
  refine lv_iload_n hx hb dX7_set_0 rfl (lv_at hl 1 rfl) ?_
  refine lv_iload_n hx hb dX7_set_1 rfl (lv_at hl 2 rfl) ?_
  obtain ⟨r_1, X_1, h_1, hf2⟩ := m_bi_s hf0
  clear hf0
  refine m_callSi C [.int v1, .int v2] [] (c_X6_refusal l D a cy hG N _ _ _ h_1) (m_goodS wl_X7_66 wst_X6_refusal wn_X6 wc_X6_refusal) ⟨rfl, rfl⟩ hv_X6_refusal ⟨Nat.le_of_ble_eq_true rfl, Nat.le_of_ble_eq_true rfl⟩ hP hS rfl hl.1 rfl (Nat.le_of_ble_eq_true rfl) dX7_set_2 (fun H locs hP hS => ?_)
  refine lv_istore_n (lv' := [(3, .int r_1), (0, .ref (a 126)), (1, .int v1), (2, .int v2)]) hx hb dX7_set_5 rfl hl (by decide) rfl (fun ls hl => ?_)
  refine lv_iload_n hx hb dX7_set_6 rfl (lv_at hl 0 rfl) ?_
  refine lv_if_eq (tgt := 12) hx hb dX7_set_7 (by decide) (fun c_3 => ?_) (fun c_3 => ?_)
  · have hf4 := m_it c_3 hf2
    clear hf2
    refine lv_aload_n hx hb dX7_set_12 rfl (lv_at hl 1 rfl) ?_
    refine m_get C hP mC_126 rfl inX7 2 (by decide) wf_X7_22 rfl dX7_set_13 ?_
    refine lv_aload_n hx hb dX7_set_16 rfl (lv_at hl 1 rfl) ?_
    refine m_get C hP mC_126 rfl inX7 0 (by decide) wf_X7_10 rfl dX7_set_17 ?_
    obtain ⟨X_6, h_6, hf7⟩ := m_bv_s hf4
    clear hf4
    refine m_callVv (q := (RX2, TX2, 3)) C [.ref (a 0)] [] (c_X2_push l D a cy hG N _ h_6) (m_goodV wl_X7_37 wi_X2_push ws_X2_push wn_X2 wc_X2_push) ⟨rfl, rfl⟩ hv_X2_push ⟨Nat.le_of_ble_eq_true rfl, Nat.le_of_ble_eq_true rfl⟩ rfl mC_127 hP hS rfl hl.1 rfl (Nat.le_of_ble_eq_true rfl) dX7_set_20 (fun H locs hP hS => ?_)
    refine lv_aload_n hx hb dX7_set_23 rfl (lv_at hl 1 rfl) ?_
    refine m_get C hP mC_126 rfl inX7 0 (by decide) wf_X7_10 rfl dX7_set_24 ?_
    refine lv_iload_n hx hb dX7_set_27 rfl (lv_at hl 2 rfl) ?_
    refine lv_iload_n hx hb dX7_set_28 rfl (lv_at hl 3 rfl) ?_
    obtain ⟨r_8, X_8, h_8, hf9⟩ := m_bi_s hf7
    clear hf7
    refine m_callVi (q := (RX3, TX3, 12)) C [.int v1, .int v2] [] (c_X3_change l D a cy hG N _ _ _ h_8) (m_goodV wl_X7_71 wi_X3_change ws_X3_change wn_X3 wc_X3_change) ⟨rfl, rfl⟩ hv_X3_change ⟨Nat.le_of_ble_eq_true rfl, Nat.le_of_ble_eq_true rfl⟩ rfl mC_0 hP hS rfl hl.1 rfl (Nat.le_of_ble_eq_true rfl) dX7_set_29 (fun H locs hP hS => ?_)
    exact m_iret C hP hS dX7_set_32 hf9
  · have hf5 := m_ie c_3 hf2
    clear hf2
    refine lv_iload_n hx hb dX7_set_10 rfl (lv_at hl 0 rfl) ?_
    exact m_iret C hP hS dX7_set_11 hf5
abbrev rm_X7_append : Room := { frames := 1, cells := 0, slots := 0, locals := 21 }
def f_X7_append (N : Nat) (v1 : Int32) (X : XT) : Option (Int32 × XT) := m_bi (f_X5_add N v1 X) fun r_1 X_1 => some (r_1, X_1)
set_option maxHeartbeats 4000000 in
set_option maxRecDepth 100000 in
theorem c_X7_append (l : Launch) (D : va_G) (a : Nat → Nat) (cy : Nat → ClassId) (hG : m_inj 131 a) (N : Nat) (v1 : Int32) (X : XT) {r0 : Int32} {X0 : XT} (hf0 : f_X7_append N v1 X = some (r0, X0)) : Met l yX7_append (Cond.code yX7_append cX7_append 2 (some .int) :: m_tbl) rm_X7_append (va_Pc [.ref (a 126), .int v1] (m_PX D (m_tc cy) (m_WC a cy) (m_ZC a) X)) (m_QI D (m_WC a cy) (m_AC a) r0 X0) 0 0 (m_AC a) := by
  refine m_met (own := RX7) hy_X7_append rfl (Nat.le_of_ble_eq_true rfl) (m_wl_D hG _) m_ZC_keep ?_
  intro p e s m args below meth c C ls hl hP hS
  have hx := C.1.1
  have hb := C.1.2.1
  have hl : lv_has ls 2 [(0, .ref (a 126)), (1, .int v1)] := hl
  unfold f_X7_append at hf0
  suffices K : ∀ (H : Heap) (locs : List Loc), va_P D vwCl (m_WC a cy X) H → va_S (m_AC a) s.heap H locs → W p l e rm_X7_append s m args below meth c H locs 0 0 (MQ below (m_QI D (m_WC a cy) (m_AC a) r0 X0) args s 0 0 (m_AC a)) (F0 m 0 ls []) from K _ _ hP hS
  clear hP hS
  intro H locs hP hS
  refine lv_aload_n hx hb dX7_append_0 rfl (lv_at hl 0 rfl) ?_
  refine m_get C hP mC_126 rfl inX7 3 (by decide) wf_X7_29 rfl dX7_append_1 ?_
  refine lv_iload_n hx hb dX7_append_4 rfl (lv_at hl 1 rfl) ?_
  obtain ⟨r_1, X_1, h_1, hf2⟩ := m_bi_s hf0
  clear hf0
  refine m_callVi (q := (RX5, TX5, 7)) C [.int v1] [] (c_X5_add l D a cy hG N _ _ h_1) (m_goodV wl_X7_74 wi_X5_add ws_X5_add wn_X5 wc_X5_add) ⟨rfl, rfl⟩ hv_X5_add ⟨Nat.le_of_ble_eq_true rfl, Nat.le_of_ble_eq_true rfl⟩ rfl mC_129 hP hS rfl hl.1 rfl (Nat.le_of_ble_eq_true rfl) dX7_append_5 (fun H locs hP hS => ?_)
  exact m_iret C hP hS dX7_append_8 hf2
abbrev rm_X7_clearText : Room := { frames := 1, cells := 0, slots := 0, locals := 21 }
def f_X7_clearText (N : Nat) (X : XT) : Option (Int32 × XT) := m_bi (f_X5_empty N X) fun r_1 X_1 => some (r_1, X_1)
set_option maxHeartbeats 4000000 in
set_option maxRecDepth 100000 in
theorem c_X7_clearText (l : Launch) (D : va_G) (a : Nat → Nat) (cy : Nat → ClassId) (hG : m_inj 131 a) (N : Nat) (X : XT) {r0 : Int32} {X0 : XT} (hf0 : f_X7_clearText N X = some (r0, X0)) : Met l yX7_clearText (Cond.code yX7_clearText cX7_clearText 1 (some .int) :: m_tbl) rm_X7_clearText (va_Pc [.ref (a 126)] (m_PX D (m_tc cy) (m_WC a cy) (m_ZC a) X)) (m_QI D (m_WC a cy) (m_AC a) r0 X0) 0 0 (m_AC a) := by
  refine m_met (own := RX7) hy_X7_clearText rfl (Nat.le_of_ble_eq_true rfl) (m_wl_D hG _) m_ZC_keep ?_
  intro p e s m args below meth c C ls hl hP hS
  have hx := C.1.1
  have hb := C.1.2.1
  have hl : lv_has ls 1 [(0, .ref (a 126))] := hl
  unfold f_X7_clearText at hf0
  suffices K : ∀ (H : Heap) (locs : List Loc), va_P D vwCl (m_WC a cy X) H → va_S (m_AC a) s.heap H locs → W p l e rm_X7_clearText s m args below meth c H locs 0 0 (MQ below (m_QI D (m_WC a cy) (m_AC a) r0 X0) args s 0 0 (m_AC a)) (F0 m 0 ls []) from K _ _ hP hS
  clear hP hS
  intro H locs hP hS
  refine lv_aload_n hx hb dX7_clearText_0 rfl (lv_at hl 0 rfl) ?_
  refine m_get C hP mC_126 rfl inX7 3 (by decide) wf_X7_29 rfl dX7_clearText_1 ?_
  obtain ⟨r_1, X_1, h_1, hf2⟩ := m_bi_s hf0
  clear hf0
  refine m_callVi (q := (RX5, TX5, 7)) C [] [] (c_X5_empty l D a cy hG N _ h_1) (m_goodV wl_X7_77 wi_X5_empty ws_X5_empty wn_X5 wc_X5_empty) ⟨rfl, rfl⟩ hv_X5_empty ⟨Nat.le_of_ble_eq_true rfl, Nat.le_of_ble_eq_true rfl⟩ rfl mC_129 hP hS rfl hl.1 rfl (Nat.le_of_ble_eq_true rfl) dX7_clearText_4 (fun H locs hP hS => ?_)
  exact m_iret C hP hS dX7_clearText_7 hf2
abbrev rm_X7_fault : Room := { frames := 4, cells := 0, slots := 0, locals := 83 }
def f_X7_fault (N : Nat) (X : XT) : Option (Int32 × XT) := m_bi (f_X5_firstFault N X) fun r_1 X_1 => some (r_1, X_1)
set_option maxHeartbeats 4000000 in
set_option maxRecDepth 100000 in
theorem c_X7_fault (l : Launch) (D : va_G) (a : Nat → Nat) (cy : Nat → ClassId) (hG : m_inj 131 a) (N : Nat) (X : XT) {r0 : Int32} {X0 : XT} (hf0 : f_X7_fault N X = some (r0, X0)) : Met l yX7_fault (Cond.code yX7_fault cX7_fault 1 (some .int) :: m_tbl) rm_X7_fault (va_Pc [.ref (a 126)] (m_PX D (m_tc cy) (m_WC a cy) (m_ZC a) X)) (m_QI D (m_WC a cy) (m_AC a) r0 X0) 0 0 (m_AC a) := by
  refine m_met (own := RX7) hy_X7_fault rfl (Nat.le_of_ble_eq_true rfl) (m_wl_D hG _) m_ZC_keep ?_
  intro p e s m args below meth c C ls hl hP hS
  have hx := C.1.1
  have hb := C.1.2.1
  have hl : lv_has ls 1 [(0, .ref (a 126))] := hl
  unfold f_X7_fault at hf0
  suffices K : ∀ (H : Heap) (locs : List Loc), va_P D vwCl (m_WC a cy X) H → va_S (m_AC a) s.heap H locs → W p l e rm_X7_fault s m args below meth c H locs 0 0 (MQ below (m_QI D (m_WC a cy) (m_AC a) r0 X0) args s 0 0 (m_AC a)) (F0 m 0 ls []) from K _ _ hP hS
  clear hP hS
  intro H locs hP hS
  refine lv_aload_n hx hb dX7_fault_0 rfl (lv_at hl 0 rfl) ?_
  refine m_get C hP mC_126 rfl inX7 3 (by decide) wf_X7_29 rfl dX7_fault_1 ?_
  obtain ⟨r_1, X_1, h_1, hf2⟩ := m_bi_s hf0
  clear hf0
  refine m_callVi (q := (RX5, TX5, 7)) C [] [] (c_X5_firstFault l D a cy hG N _ h_1) (m_goodV wl_X7_80 wi_X5_firstFault ws_X5_firstFault wn_X5 wc_X5_firstFault) ⟨rfl, rfl⟩ hv_X5_firstFault ⟨Nat.le_of_ble_eq_true rfl, Nat.le_of_ble_eq_true rfl⟩ rfl mC_129 hP hS rfl hl.1 rfl (Nat.le_of_ble_eq_true rfl) dX7_fault_4 (fun H locs hP hS => ?_)
  exact m_iret C hP hS dX7_fault_7 hf2
abbrev rm_X7_carryOutOrder : Room := { frames := 5, cells := 0, slots := 0, locals := 117 }
def f_X7_carryOutOrder (N : Nat) (X : XT) : Option (Int32 × XT) := m_bi (f_X5_number N X) fun r_1 X_1 => m_bi (f_X5_kind N X_1) fun r_3 X_3 => if r_3 = 0 then (m_bi (f_X5_records N X_3) fun r_8 X_8 => m_bi (f_X3_refusalToEnter N r_1 r_8 X_8) fun r_10 X_10 => if r_10 = 0 then (m_bi (f_X5_records N X_10) fun r_15 X_15 => m_bi (f_X5_isUrgent N X_15) fun r_17 X_17 => m_bi (f_X3_enter N r_1 r_15 r_17 X_17) fun r_19 X_19 => some (1, X_19)) else (some (0, X_10))) else (if r_3 = 1 then (m_bi (f_X3_loseClient N r_1 X_3) fun r_24 X_24 => some (1, X_24)) else (if r_3 = 2 then (m_bi (f_X3_refusalToTakeBack N r_1 X_3) fun r_29 X_29 => if r_29 = 0 then (m_bi (f_X3_takeBack N r_1 X_29) fun r_34 X_34 => some (1, X_34)) else (some (0, X_29))) else (if r_3 = 3 then (m_bi (f_X3_passTicks N r_1 X_3) fun r_39 X_39 => some (1, X_39)) else (m_bi (f_X3_loseAll N X_3) fun r_41 X_41 => some (1, X_41)))))
set_option maxHeartbeats 4000000 in
set_option maxRecDepth 100000 in
theorem c_X7_carryOutOrder (l : Launch) (D : va_G) (a : Nat → Nat) (cy : Nat → ClassId) (hG : m_inj 131 a) (N : Nat) (X : XT) {r0 : Int32} {X0 : XT} (hf0 : f_X7_carryOutOrder N X = some (r0, X0)) : Met l yX7_carryOutOrder (Cond.code yX7_carryOutOrder cX7_carryOutOrder 2 (some .boolean) :: m_tbl) rm_X7_carryOutOrder (va_Pc [.ref (a 126)] (m_PX D (m_tc cy) (m_WC a cy) (m_ZC a) X)) (m_QI D (m_WC a cy) (m_AC a) r0 X0) 0 0 (m_AC a) := by
  refine m_met (own := RX7) hy_X7_carryOutOrder rfl (Nat.le_of_ble_eq_true rfl) (m_wl_D hG _) m_ZC_keep ?_
  intro p e s m args below meth c C ls hl hP hS
  have hx := C.1.1
  have hb := C.1.2.1
  have hl : lv_has ls 2 [(0, .ref (a 126))] := hl
  unfold f_X7_carryOutOrder at hf0
  suffices K : ∀ (H : Heap) (locs : List Loc), va_P D vwCl (m_WC a cy X) H → va_S (m_AC a) s.heap H locs → W p l e rm_X7_carryOutOrder s m args below meth c H locs 0 0 (MQ below (m_QI D (m_WC a cy) (m_AC a) r0 X0) args s 0 0 (m_AC a)) (F0 m 0 ls []) from K _ _ hP hS
  clear hP hS
  intro H locs hP hS
  refine lv_aload_n hx hb dX7_carryOutOrder_0 rfl (lv_at hl 0 rfl) ?_
  refine m_get C hP mC_126 rfl inX7 3 (by decide) wf_X7_29 rfl dX7_carryOutOrder_1 ?_
  obtain ⟨r_1, X_1, h_1, hf2⟩ := m_bi_s hf0
  clear hf0
  refine m_callVi (q := (RX5, TX5, 7)) C [] [] (c_X5_number l D a cy hG N _ h_1) (m_goodV wl_X7_96 wi_X5_number ws_X5_number wn_X5 wc_X5_number) ⟨rfl, rfl⟩ hv_X5_number ⟨Nat.le_of_ble_eq_true rfl, Nat.le_of_ble_eq_true rfl⟩ rfl mC_129 hP hS rfl hl.1 rfl (Nat.le_of_ble_eq_true rfl) dX7_carryOutOrder_4 (fun H locs hP hS => ?_)
  refine lv_istore_n (lv' := [(1, .int r_1), (0, .ref (a 126))]) hx hb dX7_carryOutOrder_7 rfl hl (by decide) rfl (fun ls hl => ?_)
  refine lv_aload_n hx hb dX7_carryOutOrder_8 rfl (lv_at hl 1 rfl) ?_
  refine m_get C hP mC_126 rfl inX7 3 (by decide) wf_X7_29 rfl dX7_carryOutOrder_9 ?_
  obtain ⟨r_3, X_3, h_3, hf4⟩ := m_bi_s hf2
  clear hf2
  refine m_callVi (q := (RX5, TX5, 7)) C [] [] (c_X5_kind l D a cy hG N _ h_3) (m_goodV wl_X7_99 wi_X5_kind ws_X5_kind wn_X5 wc_X5_kind) ⟨rfl, rfl⟩ hv_X5_kind ⟨Nat.le_of_ble_eq_true rfl, Nat.le_of_ble_eq_true rfl⟩ rfl mC_129 hP hS rfl hl.1 rfl (Nat.le_of_ble_eq_true rfl) dX7_carryOutOrder_12 (fun H locs hP hS => ?_)
  by_cases c_5 : r_3 = 0
  · have hf6 := m_it c_5 hf4
    clear hf4
    refine lv_tableIn (tgt := 44) hx hb dX7_carryOutOrder_15 (by rw [c_5]; decide) (by rw [c_5]; decide) (by rw [c_5]; rfl) (by decide) ?_
    refine lv_aload_n hx hb dX7_carryOutOrder_44 rfl (lv_at hl 1 rfl) ?_
    refine m_get C hP mC_126 rfl inX7 0 (by decide) wf_X7_10 rfl dX7_carryOutOrder_45 ?_
    refine lv_iload_n hx hb dX7_carryOutOrder_48 rfl (lv_at hl 0 rfl) ?_
    refine lv_aload_n hx hb dX7_carryOutOrder_49 rfl (lv_at hl 1 rfl) ?_
    refine m_get C hP mC_126 rfl inX7 3 (by decide) wf_X7_29 rfl dX7_carryOutOrder_50 ?_
    obtain ⟨r_8, X_8, h_8, hf9⟩ := m_bi_s hf6
    clear hf6
    refine m_callVi (q := (RX5, TX5, 7)) C [] [.int r_1, .ref (a 0)] (c_X5_records l D a cy hG N _ h_8) (m_goodV wl_X7_102 wi_X5_records ws_X5_records wn_X5 wc_X5_records) ⟨rfl, rfl⟩ hv_X5_records ⟨Nat.le_of_ble_eq_true rfl, Nat.le_of_ble_eq_true rfl⟩ rfl mC_129 hP hS rfl hl.1 rfl (Nat.le_of_ble_eq_true rfl) dX7_carryOutOrder_53 (fun H locs hP hS => ?_)
    obtain ⟨r_10, X_10, h_10, hf11⟩ := m_bi_s hf9
    clear hf9
    refine m_callVi (q := (RX3, TX3, 12)) C [.int r_1, .int r_8] [] (c_X3_refusalToEnter l D a cy hG N _ _ _ h_10) (m_goodV wl_X7_33 wi_X3_refusalToEnter ws_X3_refusalToEnter wn_X3 wc_X3_refusalToEnter) ⟨rfl, rfl⟩ hv_X3_refusalToEnter ⟨Nat.le_of_ble_eq_true rfl, Nat.le_of_ble_eq_true rfl⟩ rfl mC_0 hP hS rfl hl.1 rfl (Nat.le_of_ble_eq_true rfl) dX7_carryOutOrder_56 (fun H locs hP hS => ?_)
    refine lv_if_eq (tgt := 64) hx hb dX7_carryOutOrder_59 (by decide) (fun c_12 => ?_) (fun c_12 => ?_)
    · have hf13 := m_it c_12 hf11
      clear hf11
      refine lv_aload_n hx hb dX7_carryOutOrder_64 rfl (lv_at hl 1 rfl) ?_
      refine m_get C hP mC_126 rfl inX7 0 (by decide) wf_X7_10 rfl dX7_carryOutOrder_65 ?_
      refine lv_iload_n hx hb dX7_carryOutOrder_68 rfl (lv_at hl 0 rfl) ?_
      refine lv_aload_n hx hb dX7_carryOutOrder_69 rfl (lv_at hl 1 rfl) ?_
      refine m_get C hP mC_126 rfl inX7 3 (by decide) wf_X7_29 rfl dX7_carryOutOrder_70 ?_
      obtain ⟨r_15, X_15, h_15, hf16⟩ := m_bi_s hf13
      clear hf13
      refine m_callVi (q := (RX5, TX5, 7)) C [] [.int r_1, .ref (a 0)] (c_X5_records l D a cy hG N _ h_15) (m_goodV wl_X7_102 wi_X5_records ws_X5_records wn_X5 wc_X5_records) ⟨rfl, rfl⟩ hv_X5_records ⟨Nat.le_of_ble_eq_true rfl, Nat.le_of_ble_eq_true rfl⟩ rfl mC_129 hP hS rfl hl.1 rfl (Nat.le_of_ble_eq_true rfl) dX7_carryOutOrder_73 (fun H locs hP hS => ?_)
      refine lv_aload_n hx hb dX7_carryOutOrder_76 rfl (lv_at hl 1 rfl) ?_
      refine m_get C hP mC_126 rfl inX7 3 (by decide) wf_X7_29 rfl dX7_carryOutOrder_77 ?_
      obtain ⟨r_17, X_17, h_17, hf18⟩ := m_bi_s hf16
      clear hf16
      refine m_callVi (q := (RX5, TX5, 7)) C [] [.int r_15, .int r_1, .ref (a 0)] (c_X5_isUrgent l D a cy hG N _ h_17) (m_goodV wl_X7_105 wi_X5_isUrgent ws_X5_isUrgent wn_X5 wc_X5_isUrgent) ⟨rfl, rfl⟩ hv_X5_isUrgent ⟨Nat.le_of_ble_eq_true rfl, Nat.le_of_ble_eq_true rfl⟩ rfl mC_129 hP hS rfl hl.1 rfl (Nat.le_of_ble_eq_true rfl) dX7_carryOutOrder_80 (fun H locs hP hS => ?_)
      obtain ⟨r_19, X_19, h_19, hf20⟩ := m_bi_s hf18
      clear hf18
      refine m_callVi (q := (RX3, TX3, 12)) C [.int r_1, .int r_15, .int r_17] [] (c_X3_enter l D a cy hG N _ _ _ _ h_19) (m_goodV wl_X7_41 wi_X3_enter ws_X3_enter wn_X3 wc_X3_enter) ⟨rfl, rfl⟩ hv_X3_enter ⟨Nat.le_of_ble_eq_true rfl, Nat.le_of_ble_eq_true rfl⟩ rfl mC_0 hP hS rfl hl.1 rfl (Nat.le_of_ble_eq_true rfl) dX7_carryOutOrder_83 (fun H locs hP hS => ?_)
      refine lv_pop hx hb dX7_carryOutOrder_86 rfl ?_
      refine lv_iconst (v := 1) hx hb dX7_carryOutOrder_87 (by decide) ?_
      exact m_zret C hP hS dX7_carryOutOrder_88 (by decide) hf20
    · have hf14 := m_ie c_12 hf11
      clear hf11
      refine lv_iconst (v := 0) hx hb dX7_carryOutOrder_62 (by decide) ?_
      exact m_zret C hP hS dX7_carryOutOrder_63 (by decide) hf14
  · have hf7 := m_ie c_5 hf4
    clear hf4
    by_cases c_21 : r_3 = 1
    · have hf22 := m_it c_21 hf7
      clear hf7
      refine lv_tableIn (tgt := 89) hx hb dX7_carryOutOrder_15 (by rw [c_21]; decide) (by rw [c_21]; decide) (by rw [c_21]; rfl) (by decide) ?_
      refine lv_aload_n hx hb dX7_carryOutOrder_89 rfl (lv_at hl 1 rfl) ?_
      refine m_get C hP mC_126 rfl inX7 0 (by decide) wf_X7_10 rfl dX7_carryOutOrder_90 ?_
      refine lv_iload_n hx hb dX7_carryOutOrder_93 rfl (lv_at hl 0 rfl) ?_
      obtain ⟨r_24, X_24, h_24, hf25⟩ := m_bi_s hf22
      clear hf22
      refine m_callVi (q := (RX3, TX3, 12)) C [.int r_1] [] (c_X3_loseClient l D a cy hG N _ _ h_24) (m_goodV wl_X7_49 wi_X3_loseClient ws_X3_loseClient wn_X3 wc_X3_loseClient) ⟨rfl, rfl⟩ hv_X3_loseClient ⟨Nat.le_of_ble_eq_true rfl, Nat.le_of_ble_eq_true rfl⟩ rfl mC_0 hP hS rfl hl.1 rfl (Nat.le_of_ble_eq_true rfl) dX7_carryOutOrder_94 (fun H locs hP hS => ?_)
      refine lv_pop hx hb dX7_carryOutOrder_97 rfl ?_
      refine lv_iconst (v := 1) hx hb dX7_carryOutOrder_98 (by decide) ?_
      exact m_zret C hP hS dX7_carryOutOrder_99 (by decide) hf25
    · have hf23 := m_ie c_21 hf7
      clear hf7
      by_cases c_26 : r_3 = 2
      · have hf27 := m_it c_26 hf23
        clear hf23
        refine lv_tableIn (tgt := 100) hx hb dX7_carryOutOrder_15 (by rw [c_26]; decide) (by rw [c_26]; decide) (by rw [c_26]; rfl) (by decide) ?_
        refine lv_aload_n hx hb dX7_carryOutOrder_100 rfl (lv_at hl 1 rfl) ?_
        refine m_get C hP mC_126 rfl inX7 0 (by decide) wf_X7_10 rfl dX7_carryOutOrder_101 ?_
        refine lv_iload_n hx hb dX7_carryOutOrder_104 rfl (lv_at hl 0 rfl) ?_
        obtain ⟨r_29, X_29, h_29, hf30⟩ := m_bi_s hf27
        clear hf27
        refine m_callVi (q := (RX3, TX3, 12)) C [.int r_1] [] (c_X3_refusalToTakeBack l D a cy hG N _ _ h_29) (m_goodV wl_X7_53 wi_X3_refusalToTakeBack ws_X3_refusalToTakeBack wn_X3 wc_X3_refusalToTakeBack) ⟨rfl, rfl⟩ hv_X3_refusalToTakeBack ⟨Nat.le_of_ble_eq_true rfl, Nat.le_of_ble_eq_true rfl⟩ rfl mC_0 hP hS rfl hl.1 rfl (Nat.le_of_ble_eq_true rfl) dX7_carryOutOrder_105 (fun H locs hP hS => ?_)
        refine lv_if_eq (tgt := 113) hx hb dX7_carryOutOrder_108 (by decide) (fun c_31 => ?_) (fun c_31 => ?_)
        · have hf32 := m_it c_31 hf30
          clear hf30
          refine lv_aload_n hx hb dX7_carryOutOrder_113 rfl (lv_at hl 1 rfl) ?_
          refine m_get C hP mC_126 rfl inX7 0 (by decide) wf_X7_10 rfl dX7_carryOutOrder_114 ?_
          refine lv_iload_n hx hb dX7_carryOutOrder_117 rfl (lv_at hl 0 rfl) ?_
          obtain ⟨r_34, X_34, h_34, hf35⟩ := m_bi_s hf32
          clear hf32
          refine m_callVi (q := (RX3, TX3, 12)) C [.int r_1] [] (c_X3_takeBack l D a cy hG N _ _ h_34) (m_goodV wl_X7_56 wi_X3_takeBack ws_X3_takeBack wn_X3 wc_X3_takeBack) ⟨rfl, rfl⟩ hv_X3_takeBack ⟨Nat.le_of_ble_eq_true rfl, Nat.le_of_ble_eq_true rfl⟩ rfl mC_0 hP hS rfl hl.1 rfl (Nat.le_of_ble_eq_true rfl) dX7_carryOutOrder_118 (fun H locs hP hS => ?_)
          refine lv_pop hx hb dX7_carryOutOrder_121 rfl ?_
          refine lv_iconst (v := 1) hx hb dX7_carryOutOrder_122 (by decide) ?_
          exact m_zret C hP hS dX7_carryOutOrder_123 (by decide) hf35
        · have hf33 := m_ie c_31 hf30
          clear hf30
          refine lv_iconst (v := 0) hx hb dX7_carryOutOrder_111 (by decide) ?_
          exact m_zret C hP hS dX7_carryOutOrder_112 (by decide) hf33
      · have hf28 := m_ie c_26 hf23
        clear hf23
        by_cases c_36 : r_3 = 3
        · have hf37 := m_it c_36 hf28
          clear hf28
          refine lv_tableIn (tgt := 124) hx hb dX7_carryOutOrder_15 (by rw [c_36]; decide) (by rw [c_36]; decide) (by rw [c_36]; rfl) (by decide) ?_
          refine lv_aload_n hx hb dX7_carryOutOrder_124 rfl (lv_at hl 1 rfl) ?_
          refine m_get C hP mC_126 rfl inX7 0 (by decide) wf_X7_10 rfl dX7_carryOutOrder_125 ?_
          refine lv_iload_n hx hb dX7_carryOutOrder_128 rfl (lv_at hl 0 rfl) ?_
          obtain ⟨r_39, X_39, h_39, hf40⟩ := m_bi_s hf37
          clear hf37
          refine m_callVi (q := (RX3, TX3, 12)) C [.int r_1] [] (c_X3_passTicks l D a cy hG N _ _ h_39) (m_goodV wl_X7_63 wi_X3_passTicks ws_X3_passTicks wn_X3 wc_X3_passTicks) ⟨rfl, rfl⟩ hv_X3_passTicks ⟨Nat.le_of_ble_eq_true rfl, Nat.le_of_ble_eq_true rfl⟩ rfl mC_0 hP hS rfl hl.1 rfl (Nat.le_of_ble_eq_true rfl) dX7_carryOutOrder_129 (fun H locs hP hS => ?_)
          refine lv_pop hx hb dX7_carryOutOrder_132 rfl ?_
          refine lv_iconst (v := 1) hx hb dX7_carryOutOrder_133 (by decide) ?_
          exact m_zret C hP hS dX7_carryOutOrder_134 (by decide) hf40
        · have hf38 := m_ie c_36 hf28
          clear hf28
          have n_5 := lv_neT (a := 0) c_5 (by decide)
          have n_21 := lv_neT (a := 1) c_21 (by decide)
          have n_26 := lv_neT (a := 2) c_26 (by decide)
          have n_36 := lv_neT (a := 3) c_36 (by decide)
          refine lv_tableOut (tgt := 135) hx hb dX7_carryOutOrder_15 (by omega) (by decide) ?_
          refine lv_aload_n hx hb dX7_carryOutOrder_135 rfl (lv_at hl 1 rfl) ?_
          refine m_get C hP mC_126 rfl inX7 0 (by decide) wf_X7_10 rfl dX7_carryOutOrder_136 ?_
          obtain ⟨r_41, X_41, h_41, hf42⟩ := m_bi_s hf38
          clear hf38
          refine m_callVi (q := (RX3, TX3, 12)) C [] [] (c_X3_loseAll l D a cy hG N _ h_41) (m_goodV wl_X7_59 wi_X3_loseAll ws_X3_loseAll wn_X3 wc_X3_loseAll) ⟨rfl, rfl⟩ hv_X3_loseAll ⟨Nat.le_of_ble_eq_true rfl, Nat.le_of_ble_eq_true rfl⟩ rfl mC_0 hP hS rfl hl.1 rfl (Nat.le_of_ble_eq_true rfl) dX7_carryOutOrder_139 (fun H locs hP hS => ?_)
          refine lv_pop hx hb dX7_carryOutOrder_142 rfl ?_
          refine lv_iconst (v := 1) hx hb dX7_carryOutOrder_143 (by decide) ?_
          exact m_zret C hP hS dX7_carryOutOrder_144 (by decide) hf42
abbrev rm_X7_run : Room := { frames := 6, cells := 0, slots := 0, locals := 138 }
def f_X7_run_47 (N : Nat) : Nat → Int32 → Int32 → XT → Option (Int32 × XT)
  | 0, _, _, _ => none
  | n + 1, v2, v3, X => if v2 ≤ v3 then (some (v2, X)) else (m_bv (f_X5_readOrder N X) fun X_15 => m_bi (f_X7_carryOutOrder N X_15) fun r_17 X_17 => if r_17 = 0 then (some (v3, X_17)) else (m_nm (v3 + 1) fun y_22 => f_X7_run_47 N n v2 y_22 X_17))
set_option maxHeartbeats 4000000 in
set_option maxRecDepth 100000 in
theorem w_X7_run_47 (l : Launch) (D : va_G) (a : Nat → Nat) (cy : Nat → ClassId) (hG : m_inj 131 a) (N : Nat) {p : Program} {e : Env} {s : State} {m : MethodId} {args : Array Value} {below : List Frame} {meth : Method} {c : Code} (C : m_Cx p s m args meth c cX7_run 4 RX7 (some .int) (Cond.code yX7_run cX7_run 4 (some .int)) D (m_tc cy) (m_AC a) (m_WC a cy) (m_ZC a)) {r0 : Int32} {X0 : XT} : ∀ (n : Nat) (v2 : Int32) (v3 : Int32) (X : XT), f_X7_run_47 N n v2 v3 X = some (r0, X0) → ∀ (H : Heap) (locs : List Loc) (ls : Array Slot), va_P D vwCl (m_WC a cy X) H → va_S (m_AC a) s.heap H locs → lv_has ls 4 [(0, .ref (a 126)), (2, .int v2), (3, .int v3)] → W p l e rm_X7_run s m args below meth c H locs 0 0 (MQ below (m_QI D (m_WC a cy) (m_AC a) r0 X0) args s 0 0 (m_AC a)) (F0 m 47 ls []) := by
  have hx := C.1.1
  have hb := C.1.2.1
  intro n
  induction n with
  | zero => intro v2 v3 X hf0; rw [f_X7_run_47] at hf0; cases hf0
  | succ n ih =>
    intro v2 v3 X hf0 H locs ls hP hS hl
    rw [f_X7_run_47] at hf0
    refine lv_iload_n hx hb dX7_run_47 rfl (lv_at hl 2 rfl) ?_
    refine lv_iload_n hx hb dX7_run_48 rfl (lv_at hl 1 rfl) ?_
    refine lv_icmp_ge (tgt := 74) hx hb dX7_run_49 (by decide) (fun c_12 => ?_) (fun c_12 => ?_)
    · have hf13 := m_it c_12 hf0
      clear hf0
      refine lv_iload_n hx hb dX7_run_74 rfl (lv_at hl 1 rfl) ?_
      exact m_iret C hP hS dX7_run_75 hf13
    · have hf14 := m_ie c_12 hf0
      clear hf0
      refine lv_aload_n hx hb dX7_run_52 rfl (lv_at hl 0 rfl) ?_
      refine m_get C hP mC_126 rfl inX7 3 (by decide) wf_X7_29 rfl dX7_run_53 ?_
      obtain ⟨X_15, h_15, hf16⟩ := m_bv_s hf14
      clear hf14
      refine m_callVv (q := (RX5, TX5, 7)) C [] [] (c_X5_readOrder l D a cy hG N _ h_15) (m_goodV wl_X7_89 wi_X5_readOrder ws_X5_readOrder wn_X5 wc_X5_readOrder) ⟨rfl, rfl⟩ hv_X5_readOrder ⟨Nat.le_of_ble_eq_true rfl, Nat.le_of_ble_eq_true rfl⟩ rfl mC_129 hP hS rfl hl.1 rfl (Nat.le_of_ble_eq_true rfl) dX7_run_56 (fun H locs hP hS => ?_)
      refine lv_aload_n hx hb dX7_run_59 rfl (lv_at hl 0 rfl) ?_
      obtain ⟨r_17, X_17, h_17, hf18⟩ := m_bi_s hf16
      clear hf16
      refine m_callVi (q := (RX7, TX7, 5)) C [] [] (c_X7_carryOutOrder l D a cy hG N _ h_17) (m_goodV wl_X7_92 wi_X7_carryOutOrder ws_X7_carryOutOrder wn_X7 wc_X7_carryOutOrder) ⟨rfl, rfl⟩ hv_X7_carryOutOrder ⟨Nat.le_of_ble_eq_true rfl, Nat.le_of_ble_eq_true rfl⟩ rfl mC_126 hP hS rfl hl.1 rfl (Nat.le_of_ble_eq_true rfl) dX7_run_60 (fun H locs hP hS => ?_)
      refine lv_if_ne (tgt := 68) hx hb dX7_run_63 (by decide) (fun c_19 => ?_) (fun c_19 => ?_)
      · have hf20 := m_ie c_19 hf18
        clear hf18
        obtain ⟨y_22, e_22⟩ : ∃ y : Int32, y = v3 + 1 := ⟨_, rfl⟩
        refine lv_iinc (v := y_22) (lv' := [(3, .int y_22), (0, .ref (a 126)), (2, .int v2)]) hx hb dX7_run_68 hl (k := 2) rfl (by rw [e_22]; rfl) (by decide) rfl (fun ls hl => ?_)
        have hf23 := m_nm_s e_22 hf20
        clear hf20
        refine lv_goto (tgt := 47) hx hb dX7_run_71 (by decide) ?_
        exact ih _ _ _ hf23 H locs ls hP hS (lv_sub hl [1, 2, 0] rfl)
      · have hf21 := m_it c_19 hf18
        clear hf18
        refine lv_iload_n hx hb dX7_run_66 rfl (lv_at hl 2 rfl) ?_
        exact m_iret C hP hS dX7_run_67 hf21
def f_X7_run (N : Nat) (X : XT) : Option (Int32 × XT) := m_bi (f_X5_firstFault N X) fun r_1 X_1 => if r_1 = (-5) then (m_bv (f_X2_push N X_1) fun X_6 => m_bi (f_X5_orders N X_6) fun r_8 X_8 => m_bv (f_X5_goToStart N X_8) fun X_10 => f_X7_run_47 N N r_8 0 X_10) else (m_nm (((-100) : Int32) - r_1) fun y_24 => some (y_24, X_1))
set_option maxHeartbeats 4000000 in
set_option maxRecDepth 100000 in
theorem c_X7_run (l : Launch) (D : va_G) (a : Nat → Nat) (cy : Nat → ClassId) (hG : m_inj 131 a) (N : Nat) (X : XT) {r0 : Int32} {X0 : XT} (hf0 : f_X7_run N X = some (r0, X0)) : Met l yX7_run (Cond.code yX7_run cX7_run 4 (some .int) :: m_tbl) rm_X7_run (va_Pc [.ref (a 126)] (m_PX D (m_tc cy) (m_WC a cy) (m_ZC a) X)) (m_QI D (m_WC a cy) (m_AC a) r0 X0) 0 0 (m_AC a) := by
  refine m_met (own := RX7) hy_X7_run rfl (Nat.le_of_ble_eq_true rfl) (m_wl_D hG _) m_ZC_keep ?_
  intro p e s m args below meth c C ls hl hP hS
  have hx := C.1.1
  have hb := C.1.2.1
  have hl : lv_has ls 4 [(0, .ref (a 126))] := hl
  unfold f_X7_run at hf0
  suffices K : ∀ (H : Heap) (locs : List Loc), va_P D vwCl (m_WC a cy X) H → va_S (m_AC a) s.heap H locs → W p l e rm_X7_run s m args below meth c H locs 0 0 (MQ below (m_QI D (m_WC a cy) (m_AC a) r0 X0) args s 0 0 (m_AC a)) (F0 m 0 ls []) from K _ _ hP hS
  clear hP hS
  intro H locs hP hS
  refine lv_aload_n hx hb dX7_run_0 rfl (lv_at hl 0 rfl) ?_
  refine m_get C hP mC_126 rfl inX7 3 (by decide) wf_X7_29 rfl dX7_run_1 ?_
  obtain ⟨r_1, X_1, h_1, hf2⟩ := m_bi_s hf0
  clear hf0
  refine m_callVi (q := (RX5, TX5, 7)) C [] [] (c_X5_firstFault l D a cy hG N _ h_1) (m_goodV wl_X7_80 wi_X5_firstFault ws_X5_firstFault wn_X5 wc_X5_firstFault) ⟨rfl, rfl⟩ hv_X5_firstFault ⟨Nat.le_of_ble_eq_true rfl, Nat.le_of_ble_eq_true rfl⟩ rfl mC_129 hP hS rfl hl.1 rfl (Nat.le_of_ble_eq_true rfl) dX7_run_4 (fun H locs hP hS => ?_)
  refine lv_istore_n (lv' := [(1, .int r_1), (0, .ref (a 126))]) hx hb dX7_run_7 rfl hl (by decide) rfl (fun ls hl => ?_)
  refine lv_iload_n hx hb dX7_run_8 rfl (lv_at hl 0 rfl) ?_
  refine lv_bipush (v := (-5)) hx hb dX7_run_9 (by decide) ?_
  refine lv_icmp_eq (tgt := 19) hx hb dX7_run_11 (by decide) (fun c_3 => ?_) (fun c_3 => ?_)
  · have hf4 := m_it c_3 hf2
    clear hf2
    refine lv_aload_n hx hb dX7_run_19 rfl (lv_at hl 1 rfl) ?_
    refine m_get C hP mC_126 rfl inX7 2 (by decide) wf_X7_22 rfl dX7_run_20 ?_
    refine lv_aload_n hx hb dX7_run_23 rfl (lv_at hl 1 rfl) ?_
    refine m_get C hP mC_126 rfl inX7 0 (by decide) wf_X7_10 rfl dX7_run_24 ?_
    obtain ⟨X_6, h_6, hf7⟩ := m_bv_s hf4
    clear hf4
    refine m_callVv (q := (RX2, TX2, 3)) C [.ref (a 0)] [] (c_X2_push l D a cy hG N _ h_6) (m_goodV wl_X7_37 wi_X2_push ws_X2_push wn_X2 wc_X2_push) ⟨rfl, rfl⟩ hv_X2_push ⟨Nat.le_of_ble_eq_true rfl, Nat.le_of_ble_eq_true rfl⟩ rfl mC_127 hP hS rfl hl.1 rfl (Nat.le_of_ble_eq_true rfl) dX7_run_27 (fun H locs hP hS => ?_)
    refine lv_aload_n hx hb dX7_run_30 rfl (lv_at hl 1 rfl) ?_
    refine m_get C hP mC_126 rfl inX7 3 (by decide) wf_X7_29 rfl dX7_run_31 ?_
    obtain ⟨r_8, X_8, h_8, hf9⟩ := m_bi_s hf7
    clear hf7
    refine m_callVi (q := (RX5, TX5, 7)) C [] [] (c_X5_orders l D a cy hG N _ h_8) (m_goodV wl_X7_83 wi_X5_orders ws_X5_orders wn_X5 wc_X5_orders) ⟨rfl, rfl⟩ hv_X5_orders ⟨Nat.le_of_ble_eq_true rfl, Nat.le_of_ble_eq_true rfl⟩ rfl mC_129 hP hS rfl hl.1 rfl (Nat.le_of_ble_eq_true rfl) dX7_run_34 (fun H locs hP hS => ?_)
    refine lv_istore_n (lv' := [(2, .int r_8), (1, .int r_1), (0, .ref (a 126))]) hx hb dX7_run_37 rfl hl (by decide) rfl (fun ls hl => ?_)
    refine lv_aload_n hx hb dX7_run_38 rfl (lv_at hl 2 rfl) ?_
    refine m_get C hP mC_126 rfl inX7 3 (by decide) wf_X7_29 rfl dX7_run_39 ?_
    obtain ⟨X_10, h_10, hf11⟩ := m_bv_s hf9
    clear hf9
    refine m_callVv (q := (RX5, TX5, 7)) C [] [] (c_X5_goToStart l D a cy hG N _ h_10) (m_goodV wl_X7_86 wi_X5_goToStart ws_X5_goToStart wn_X5 wc_X5_goToStart) ⟨rfl, rfl⟩ hv_X5_goToStart ⟨Nat.le_of_ble_eq_true rfl, Nat.le_of_ble_eq_true rfl⟩ rfl mC_129 hP hS rfl hl.1 rfl (Nat.le_of_ble_eq_true rfl) dX7_run_42 (fun H locs hP hS => ?_)
    refine lv_iconst (v := 0) hx hb dX7_run_45 (by decide) ?_
    refine lv_istore_n (lv' := [(3, .int 0), (2, .int r_8), (1, .int r_1), (0, .ref (a 126))]) hx hb dX7_run_46 rfl hl (by decide) rfl (fun ls hl => ?_)
    exact w_X7_run_47 l D a cy hG N C _ _ _ _ hf11 H locs ls hP hS (lv_sub hl [3, 1, 0] rfl)
  · have hf5 := m_ie c_3 hf2
    clear hf2
    refine lv_bipush (v := (-100)) hx hb dX7_run_14 (by decide) ?_
    refine lv_iload_n hx hb dX7_run_16 rfl (lv_at hl 0 rfl) ?_
    refine lv_isub hx hb dX7_run_17 ?_
    refine lv_topi (fun y_24 e_24 => ?_)
    have hf25 := m_nm_s e_24 hf5
    clear hf5
    exact m_iret C hP hS dX7_run_18 hf25
abbrev rm_X7_undo : Room := { frames := 4, cells := 0, slots := 0, locals := 104 }
def f_X7_undo (N : Nat) (X : XT) : Option (Int32 × XT) := m_bi (f_X2_popInto N X) fun r_1 X_1 => some (r_1, X_1)
set_option maxHeartbeats 4000000 in
set_option maxRecDepth 100000 in
theorem c_X7_undo (l : Launch) (D : va_G) (a : Nat → Nat) (cy : Nat → ClassId) (hG : m_inj 131 a) (N : Nat) (X : XT) {r0 : Int32} {X0 : XT} (hf0 : f_X7_undo N X = some (r0, X0)) : Met l yX7_undo (Cond.code yX7_undo cX7_undo 1 (some .int) :: m_tbl) rm_X7_undo (va_Pc [.ref (a 126)] (m_PX D (m_tc cy) (m_WC a cy) (m_ZC a) X)) (m_QI D (m_WC a cy) (m_AC a) r0 X0) 0 0 (m_AC a) := by
  refine m_met (own := RX7) hy_X7_undo rfl (Nat.le_of_ble_eq_true rfl) (m_wl_D hG _) m_ZC_keep ?_
  intro p e s m args below meth c C ls hl hP hS
  have hx := C.1.1
  have hb := C.1.2.1
  have hl : lv_has ls 1 [(0, .ref (a 126))] := hl
  unfold f_X7_undo at hf0
  suffices K : ∀ (H : Heap) (locs : List Loc), va_P D vwCl (m_WC a cy X) H → va_S (m_AC a) s.heap H locs → W p l e rm_X7_undo s m args below meth c H locs 0 0 (MQ below (m_QI D (m_WC a cy) (m_AC a) r0 X0) args s 0 0 (m_AC a)) (F0 m 0 ls []) from K _ _ hP hS
  clear hP hS
  intro H locs hP hS
  refine lv_aload_n hx hb dX7_undo_0 rfl (lv_at hl 0 rfl) ?_
  refine m_get C hP mC_126 rfl inX7 2 (by decide) wf_X7_22 rfl dX7_undo_1 ?_
  refine lv_aload_n hx hb dX7_undo_4 rfl (lv_at hl 0 rfl) ?_
  refine m_get C hP mC_126 rfl inX7 0 (by decide) wf_X7_10 rfl dX7_undo_5 ?_
  obtain ⟨r_1, X_1, h_1, hf2⟩ := m_bi_s hf0
  clear hf0
  refine m_callVi (q := (RX2, TX2, 3)) C [.ref (a 0)] [] (c_X2_popInto l D a cy hG N _ h_1) (m_goodV wl_X7_108 wi_X2_popInto ws_X2_popInto wn_X2 wc_X2_popInto) ⟨rfl, rfl⟩ hv_X2_popInto ⟨Nat.le_of_ble_eq_true rfl, Nat.le_of_ble_eq_true rfl⟩ rfl mC_127 hP hS rfl hl.1 rfl (Nat.le_of_ble_eq_true rfl) dX7_undo_8 (fun H locs hP hS => ?_)
  exact m_iret C hP hS dX7_undo_11 hf2
abbrev rm_X7_save : Room := { frames := 3, cells := 0, slots := 0, locals := 82 }
def f_X7_save (N : Nat) (X : XT) : Option (Int32 × XT) := m_bv (f_X3_copyFrom N 1 0 X) fun X_1 => m_nm (m_up X_1 126 (upd (X_1 126) 4 1)) fun X_3 => m_bi (f_X3_time N X_3) fun r_5 X_5 => some (r_5, X_5)
set_option maxHeartbeats 4000000 in
set_option maxRecDepth 100000 in
theorem c_X7_save (l : Launch) (D : va_G) (a : Nat → Nat) (cy : Nat → ClassId) (hG : m_inj 131 a) (N : Nat) (X : XT) {r0 : Int32} {X0 : XT} (hf0 : f_X7_save N X = some (r0, X0)) : Met l yX7_save (Cond.code yX7_save cX7_save 1 (some .int) :: m_tbl) rm_X7_save (va_Pc [.ref (a 126)] (m_PX D (m_tc cy) (m_WC a cy) (m_ZC a) X)) (m_QI D (m_WC a cy) (m_AC a) r0 X0) 0 0 (m_AC a) := by
  refine m_met (own := RX7) hy_X7_save rfl (Nat.le_of_ble_eq_true rfl) (m_wl_D hG _) m_ZC_keep ?_
  intro p e s m args below meth c C ls hl hP hS
  have hx := C.1.1
  have hb := C.1.2.1
  have hl : lv_has ls 1 [(0, .ref (a 126))] := hl
  unfold f_X7_save at hf0
  suffices K : ∀ (H : Heap) (locs : List Loc), va_P D vwCl (m_WC a cy X) H → va_S (m_AC a) s.heap H locs → W p l e rm_X7_save s m args below meth c H locs 0 0 (MQ below (m_QI D (m_WC a cy) (m_AC a) r0 X0) args s 0 0 (m_AC a)) (F0 m 0 ls []) from K _ _ hP hS
  clear hP hS
  intro H locs hP hS
  refine lv_aload_n hx hb dX7_save_0 rfl (lv_at hl 0 rfl) ?_
  refine m_get C hP mC_126 rfl inX7 1 (by decide) wf_X7_16 rfl dX7_save_1 ?_
  refine lv_aload_n hx hb dX7_save_4 rfl (lv_at hl 0 rfl) ?_
  refine m_get C hP mC_126 rfl inX7 0 (by decide) wf_X7_10 rfl dX7_save_5 ?_
  obtain ⟨X_1, h_1, hf2⟩ := m_bv_s hf0
  clear hf0
  refine m_callVv (q := (RX3, TX3, 12)) C [.ref (a 0)] [] (c_X3_copyFrom l D a cy hG N 1 0 (by decide) (by decide) _ h_1) (m_goodV wl_X7_112 wi_X3_copyFrom ws_X3_copyFrom wn_X3 wc_X3_copyFrom) ⟨rfl, rfl⟩ hv_X3_copyFrom ⟨Nat.le_of_ble_eq_true rfl, Nat.le_of_ble_eq_true rfl⟩ rfl (mK_0 (k := 1) (by decide)) hP hS rfl hl.1 rfl (Nat.le_of_ble_eq_true rfl) dX7_save_8 (fun H locs hP hS => ?_)
  refine lv_aload_n hx hb dX7_save_11 rfl (lv_at hl 0 rfl) ?_
  refine lv_iconst (v := 1) hx hb dX7_save_12 (by decide) ?_
  refine m_put C hP hS mC_126 rfl inX7 tyX7_ok nmX7 4 (by decide) wf_X7_115 rfl (by decide) (by decide) (Nat.le_of_ble_eq_true rfl) mC_126_4 dX7_save_13 (fun X_3 e_3 H locs hP hS => ?_)
  have hf4 := m_nm_s e_3 hf2
  clear hf2
  refine lv_aload_n hx hb dX7_save_16 rfl (lv_at hl 0 rfl) ?_
  refine m_get C hP mC_126 rfl inX7 0 (by decide) wf_X7_10 rfl dX7_save_17 ?_
  obtain ⟨r_5, X_5, h_5, hf6⟩ := m_bi_s hf4
  clear hf4
  refine m_callVi (q := (RX3, TX3, 12)) C [] [] (c_X3_time l D a cy hG N _ h_5) (m_goodV wl_X7_119 wi_X3_time ws_X3_time wn_X3 wc_X3_time) ⟨rfl, rfl⟩ hv_X3_time ⟨Nat.le_of_ble_eq_true rfl, Nat.le_of_ble_eq_true rfl⟩ rfl mC_0 hP hS rfl hl.1 rfl (Nat.le_of_ble_eq_true rfl) dX7_save_20 (fun H locs hP hS => ?_)
  exact m_iret C hP hS dX7_save_23 hf6
abbrev rm_X7_restore : Room := { frames := 4, cells := 0, slots := 0, locals := 104 }
def f_X7_restore (N : Nat) (X : XT) : Option (Int32 × XT) := if (X 126 4) = 0 then (some ((-4), X)) else (m_bv (f_X2_push N X) fun X_4 => m_bv (f_X3_copyFrom N 0 1 X_4) fun X_6 => m_bi (f_X3_time N X_6) fun r_8 X_8 => some (r_8, X_8))
set_option maxHeartbeats 4000000 in
set_option maxRecDepth 100000 in
theorem c_X7_restore (l : Launch) (D : va_G) (a : Nat → Nat) (cy : Nat → ClassId) (hG : m_inj 131 a) (N : Nat) (X : XT) {r0 : Int32} {X0 : XT} (hf0 : f_X7_restore N X = some (r0, X0)) : Met l yX7_restore (Cond.code yX7_restore cX7_restore 1 (some .int) :: m_tbl) rm_X7_restore (va_Pc [.ref (a 126)] (m_PX D (m_tc cy) (m_WC a cy) (m_ZC a) X)) (m_QI D (m_WC a cy) (m_AC a) r0 X0) 0 0 (m_AC a) := by
  refine m_met (own := RX7) hy_X7_restore rfl (Nat.le_of_ble_eq_true rfl) (m_wl_D hG _) m_ZC_keep ?_
  intro p e s m args below meth c C ls hl hP hS
  have hx := C.1.1
  have hb := C.1.2.1
  have hl : lv_has ls 1 [(0, .ref (a 126))] := hl
  unfold f_X7_restore at hf0
  suffices K : ∀ (H : Heap) (locs : List Loc), va_P D vwCl (m_WC a cy X) H → va_S (m_AC a) s.heap H locs → W p l e rm_X7_restore s m args below meth c H locs 0 0 (MQ below (m_QI D (m_WC a cy) (m_AC a) r0 X0) args s 0 0 (m_AC a)) (F0 m 0 ls []) from K _ _ hP hS
  clear hP hS
  intro H locs hP hS
  refine lv_aload_n hx hb dX7_restore_0 rfl (lv_at hl 0 rfl) ?_
  refine m_get C hP mC_126 rfl inX7 4 (by decide) wf_X7_115 rfl dX7_restore_1 ?_
  refine lv_if_ne (tgt := 10) hx hb dX7_restore_4 (by decide) (fun c_1 => ?_) (fun c_1 => ?_)
  · have hf2 := m_ie c_1 hf0
    clear hf0
    refine lv_aload_n hx hb dX7_restore_10 rfl (lv_at hl 0 rfl) ?_
    refine m_get C hP mC_126 rfl inX7 2 (by decide) wf_X7_22 rfl dX7_restore_11 ?_
    refine lv_aload_n hx hb dX7_restore_14 rfl (lv_at hl 0 rfl) ?_
    refine m_get C hP mC_126 rfl inX7 0 (by decide) wf_X7_10 rfl dX7_restore_15 ?_
    obtain ⟨X_4, h_4, hf5⟩ := m_bv_s hf2
    clear hf2
    refine m_callVv (q := (RX2, TX2, 3)) C [.ref (a 0)] [] (c_X2_push l D a cy hG N _ h_4) (m_goodV wl_X7_37 wi_X2_push ws_X2_push wn_X2 wc_X2_push) ⟨rfl, rfl⟩ hv_X2_push ⟨Nat.le_of_ble_eq_true rfl, Nat.le_of_ble_eq_true rfl⟩ rfl mC_127 hP hS rfl hl.1 rfl (Nat.le_of_ble_eq_true rfl) dX7_restore_18 (fun H locs hP hS => ?_)
    refine lv_aload_n hx hb dX7_restore_21 rfl (lv_at hl 0 rfl) ?_
    refine m_get C hP mC_126 rfl inX7 0 (by decide) wf_X7_10 rfl dX7_restore_22 ?_
    refine lv_aload_n hx hb dX7_restore_25 rfl (lv_at hl 0 rfl) ?_
    refine m_get C hP mC_126 rfl inX7 1 (by decide) wf_X7_16 rfl dX7_restore_26 ?_
    obtain ⟨X_6, h_6, hf7⟩ := m_bv_s hf5
    clear hf5
    refine m_callVv (q := (RX3, TX3, 12)) C [.ref (a 21)] [] (c_X3_copyFrom l D a cy hG N 0 1 (by decide) (by decide) _ h_6) (m_goodV wl_X7_112 wi_X3_copyFrom ws_X3_copyFrom wn_X3 wc_X3_copyFrom) ⟨rfl, rfl⟩ hv_X3_copyFrom ⟨Nat.le_of_ble_eq_true rfl, Nat.le_of_ble_eq_true rfl⟩ rfl mC_0 hP hS rfl hl.1 rfl (Nat.le_of_ble_eq_true rfl) dX7_restore_29 (fun H locs hP hS => ?_)
    refine lv_aload_n hx hb dX7_restore_32 rfl (lv_at hl 0 rfl) ?_
    refine m_get C hP mC_126 rfl inX7 0 (by decide) wf_X7_10 rfl dX7_restore_33 ?_
    obtain ⟨r_8, X_8, h_8, hf9⟩ := m_bi_s hf7
    clear hf7
    refine m_callVi (q := (RX3, TX3, 12)) C [] [] (c_X3_time l D a cy hG N _ h_8) (m_goodV wl_X7_119 wi_X3_time ws_X3_time wn_X3 wc_X3_time) ⟨rfl, rfl⟩ hv_X3_time ⟨Nat.le_of_ble_eq_true rfl, Nat.le_of_ble_eq_true rfl⟩ rfl mC_0 hP hS rfl hl.1 rfl (Nat.le_of_ble_eq_true rfl) dX7_restore_36 (fun H locs hP hS => ?_)
    exact m_iret C hP hS dX7_restore_39 hf9
  · have hf3 := m_it c_1 hf0
    clear hf0
    refine lv_bipush (v := (-4)) hx hb dX7_restore_7 (by decide) ?_
    exact m_iret C hP hS dX7_restore_9 hf3
abbrev rm_X7_commit : Room := { frames := 3, cells := 0, slots := 0, locals := 64 }
def f_X7_commit (N : Nat) (v1 : Int32) (v2 : Int32) (X : XT) : Option (Int32 × XT) := m_bi (f_X3_aboutCommit N v1 v2 X) fun r_1 X_1 => some (r_1, X_1)
set_option maxHeartbeats 4000000 in
set_option maxRecDepth 100000 in
theorem c_X7_commit (l : Launch) (D : va_G) (a : Nat → Nat) (cy : Nat → ClassId) (hG : m_inj 131 a) (N : Nat) (v1 : Int32) (v2 : Int32) (X : XT) {r0 : Int32} {X0 : XT} (hf0 : f_X7_commit N v1 v2 X = some (r0, X0)) : Met l yX7_commit (Cond.code yX7_commit cX7_commit 3 (some .int) :: m_tbl) rm_X7_commit (va_Pc [.ref (a 126), .int v1, .int v2] (m_PX D (m_tc cy) (m_WC a cy) (m_ZC a) X)) (m_QI D (m_WC a cy) (m_AC a) r0 X0) 0 0 (m_AC a) := by
  refine m_met (own := RX7) hy_X7_commit rfl (Nat.le_of_ble_eq_true rfl) (m_wl_D hG _) m_ZC_keep ?_
  intro p e s m args below meth c C ls hl hP hS
  have hx := C.1.1
  have hb := C.1.2.1
  have hl : lv_has ls 3 [(0, .ref (a 126)), (1, .int v1), (2, .int v2)] := hl
  unfold f_X7_commit at hf0
  suffices K : ∀ (H : Heap) (locs : List Loc), va_P D vwCl (m_WC a cy X) H → va_S (m_AC a) s.heap H locs → W p l e rm_X7_commit s m args below meth c H locs 0 0 (MQ below (m_QI D (m_WC a cy) (m_AC a) r0 X0) args s 0 0 (m_AC a)) (F0 m 0 ls []) from K _ _ hP hS
  clear hP hS
  intro H locs hP hS
  refine lv_aload_n hx hb dX7_commit_0 rfl (lv_at hl 0 rfl) ?_
  refine m_get C hP mC_126 rfl inX7 0 (by decide) wf_X7_10 rfl dX7_commit_1 ?_
  refine lv_iload_n hx hb dX7_commit_4 rfl (lv_at hl 1 rfl) ?_
  refine lv_iload_n hx hb dX7_commit_5 rfl (lv_at hl 2 rfl) ?_
  obtain ⟨r_1, X_1, h_1, hf2⟩ := m_bi_s hf0
  clear hf0
  refine m_callVi (q := (RX3, TX3, 12)) C [.int v1, .int v2] [] (c_X3_aboutCommit l D a cy hG N _ _ _ h_1) (m_goodV wl_X7_122 wi_X3_aboutCommit ws_X3_aboutCommit wn_X3 wc_X3_aboutCommit) ⟨rfl, rfl⟩ hv_X3_aboutCommit ⟨Nat.le_of_ble_eq_true rfl, Nat.le_of_ble_eq_true rfl⟩ rfl mC_0 hP hS rfl hl.1 rfl (Nat.le_of_ble_eq_true rfl) dX7_commit_6 (fun H locs hP hS => ?_)
  exact m_iret C hP hS dX7_commit_9 hf2
abbrev rm_X7_group : Room := { frames := 3, cells := 0, slots := 0, locals := 64 }
def f_X7_group (N : Nat) (v1 : Int32) (v2 : Int32) (X : XT) : Option (Int32 × XT) := m_bi (f_X3_aboutGroup N v1 v2 X) fun r_1 X_1 => some (r_1, X_1)
set_option maxHeartbeats 4000000 in
set_option maxRecDepth 100000 in
theorem c_X7_group (l : Launch) (D : va_G) (a : Nat → Nat) (cy : Nat → ClassId) (hG : m_inj 131 a) (N : Nat) (v1 : Int32) (v2 : Int32) (X : XT) {r0 : Int32} {X0 : XT} (hf0 : f_X7_group N v1 v2 X = some (r0, X0)) : Met l yX7_group (Cond.code yX7_group cX7_group 3 (some .int) :: m_tbl) rm_X7_group (va_Pc [.ref (a 126), .int v1, .int v2] (m_PX D (m_tc cy) (m_WC a cy) (m_ZC a) X)) (m_QI D (m_WC a cy) (m_AC a) r0 X0) 0 0 (m_AC a) := by
  refine m_met (own := RX7) hy_X7_group rfl (Nat.le_of_ble_eq_true rfl) (m_wl_D hG _) m_ZC_keep ?_
  intro p e s m args below meth c C ls hl hP hS
  have hx := C.1.1
  have hb := C.1.2.1
  have hl : lv_has ls 3 [(0, .ref (a 126)), (1, .int v1), (2, .int v2)] := hl
  unfold f_X7_group at hf0
  suffices K : ∀ (H : Heap) (locs : List Loc), va_P D vwCl (m_WC a cy X) H → va_S (m_AC a) s.heap H locs → W p l e rm_X7_group s m args below meth c H locs 0 0 (MQ below (m_QI D (m_WC a cy) (m_AC a) r0 X0) args s 0 0 (m_AC a)) (F0 m 0 ls []) from K _ _ hP hS
  clear hP hS
  intro H locs hP hS
  refine lv_aload_n hx hb dX7_group_0 rfl (lv_at hl 0 rfl) ?_
  refine m_get C hP mC_126 rfl inX7 0 (by decide) wf_X7_10 rfl dX7_group_1 ?_
  refine lv_iload_n hx hb dX7_group_4 rfl (lv_at hl 1 rfl) ?_
  refine lv_iload_n hx hb dX7_group_5 rfl (lv_at hl 2 rfl) ?_
  obtain ⟨r_1, X_1, h_1, hf2⟩ := m_bi_s hf0
  clear hf0
  refine m_callVi (q := (RX3, TX3, 12)) C [.int v1, .int v2] [] (c_X3_aboutGroup l D a cy hG N _ _ _ h_1) (m_goodV wl_X7_125 wi_X3_aboutGroup ws_X3_aboutGroup wn_X3 wc_X3_aboutGroup) ⟨rfl, rfl⟩ hv_X3_aboutGroup ⟨Nat.le_of_ble_eq_true rfl, Nat.le_of_ble_eq_true rfl⟩ rfl mC_0 hP hS rfl hl.1 rfl (Nat.le_of_ble_eq_true rfl) dX7_group_6 (fun H locs hP hS => ?_)
  exact m_iret C hP hS dX7_group_9 hf2
abbrev rm_X7_member : Room := { frames := 2, cells := 0, slots := 0, locals := 46 }
def f_X7_member (N : Nat) (v1 : Int32) (v2 : Int32) (X : XT) : Option (Int32 × XT) := m_bi (f_X3_memberAt N v1 v2 X) fun r_1 X_1 => some (r_1, X_1)
set_option maxHeartbeats 4000000 in
set_option maxRecDepth 100000 in
theorem c_X7_member (l : Launch) (D : va_G) (a : Nat → Nat) (cy : Nat → ClassId) (hG : m_inj 131 a) (N : Nat) (v1 : Int32) (v2 : Int32) (X : XT) {r0 : Int32} {X0 : XT} (hf0 : f_X7_member N v1 v2 X = some (r0, X0)) : Met l yX7_member (Cond.code yX7_member cX7_member 3 (some .int) :: m_tbl) rm_X7_member (va_Pc [.ref (a 126), .int v1, .int v2] (m_PX D (m_tc cy) (m_WC a cy) (m_ZC a) X)) (m_QI D (m_WC a cy) (m_AC a) r0 X0) 0 0 (m_AC a) := by
  refine m_met (own := RX7) hy_X7_member rfl (Nat.le_of_ble_eq_true rfl) (m_wl_D hG _) m_ZC_keep ?_
  intro p e s m args below meth c C ls hl hP hS
  have hx := C.1.1
  have hb := C.1.2.1
  have hl : lv_has ls 3 [(0, .ref (a 126)), (1, .int v1), (2, .int v2)] := hl
  unfold f_X7_member at hf0
  suffices K : ∀ (H : Heap) (locs : List Loc), va_P D vwCl (m_WC a cy X) H → va_S (m_AC a) s.heap H locs → W p l e rm_X7_member s m args below meth c H locs 0 0 (MQ below (m_QI D (m_WC a cy) (m_AC a) r0 X0) args s 0 0 (m_AC a)) (F0 m 0 ls []) from K _ _ hP hS
  clear hP hS
  intro H locs hP hS
  refine lv_aload_n hx hb dX7_member_0 rfl (lv_at hl 0 rfl) ?_
  refine m_get C hP mC_126 rfl inX7 0 (by decide) wf_X7_10 rfl dX7_member_1 ?_
  refine lv_iload_n hx hb dX7_member_4 rfl (lv_at hl 1 rfl) ?_
  refine lv_iload_n hx hb dX7_member_5 rfl (lv_at hl 2 rfl) ?_
  obtain ⟨r_1, X_1, h_1, hf2⟩ := m_bi_s hf0
  clear hf0
  refine m_callVi (q := (RX3, TX3, 12)) C [.int v1, .int v2] [] (c_X3_memberAt l D a cy hG N _ _ _ h_1) (m_goodV wl_X7_128 wi_X3_memberAt ws_X3_memberAt wn_X3 wc_X3_memberAt) ⟨rfl, rfl⟩ hv_X3_memberAt ⟨Nat.le_of_ble_eq_true rfl, Nat.le_of_ble_eq_true rfl⟩ rfl mC_0 hP hS rfl hl.1 rfl (Nat.le_of_ble_eq_true rfl) dX7_member_6 (fun H locs hP hS => ?_)
  exact m_iret C hP hS dX7_member_9 hf2
abbrev rm_X7_open : Room := { frames := 2, cells := 0, slots := 0, locals := 41 }
def f_X7_open (N : Nat) (v1 : Int32) (X : XT) : Option (Int32 × XT) := m_bi (f_X3_isClient N v1 X) fun r_1 X_1 => if r_1 = 0 then (some ((-1), X_1)) else (m_bi (f_X3_openCommitOf N v1 X_1) fun r_6 X_6 => some (r_6, X_6))
set_option maxHeartbeats 4000000 in
set_option maxRecDepth 100000 in
theorem c_X7_open (l : Launch) (D : va_G) (a : Nat → Nat) (cy : Nat → ClassId) (hG : m_inj 131 a) (N : Nat) (v1 : Int32) (X : XT) {r0 : Int32} {X0 : XT} (hf0 : f_X7_open N v1 X = some (r0, X0)) : Met l yX7_open (Cond.code yX7_open cX7_open 2 (some .int) :: m_tbl) rm_X7_open (va_Pc [.ref (a 126), .int v1] (m_PX D (m_tc cy) (m_WC a cy) (m_ZC a) X)) (m_QI D (m_WC a cy) (m_AC a) r0 X0) 0 0 (m_AC a) := by
  refine m_met (own := RX7) hy_X7_open rfl (Nat.le_of_ble_eq_true rfl) (m_wl_D hG _) m_ZC_keep ?_
  intro p e s m args below meth c C ls hl hP hS
  have hx := C.1.1
  have hb := C.1.2.1
  have hl : lv_has ls 2 [(0, .ref (a 126)), (1, .int v1)] := hl
  unfold f_X7_open at hf0
  suffices K : ∀ (H : Heap) (locs : List Loc), va_P D vwCl (m_WC a cy X) H → va_S (m_AC a) s.heap H locs → W p l e rm_X7_open s m args below meth c H locs 0 0 (MQ below (m_QI D (m_WC a cy) (m_AC a) r0 X0) args s 0 0 (m_AC a)) (F0 m 0 ls []) from K _ _ hP hS
  clear hP hS
  intro H locs hP hS
  refine lv_iload_n hx hb dX7_open_0 rfl (lv_at hl 1 rfl) ?_
  obtain ⟨r_1, X_1, h_1, hf2⟩ := m_bi_s hf0
  clear hf0
  refine m_callSi C [.int v1] [] (c_X3_isClient l D a cy hG N _ _ h_1) (m_goodS wl_X7_45 wst_X3_isClient wn_X3 wc_X3_isClient) ⟨rfl, rfl⟩ hv_X3_isClient ⟨Nat.le_of_ble_eq_true rfl, Nat.le_of_ble_eq_true rfl⟩ hP hS rfl hl.1 rfl (Nat.le_of_ble_eq_true rfl) dX7_open_1 (fun H locs hP hS => ?_)
  refine lv_if_ne (tgt := 9) hx hb dX7_open_4 (by decide) (fun c_3 => ?_) (fun c_3 => ?_)
  · have hf4 := m_ie c_3 hf2
    clear hf2
    refine lv_aload_n hx hb dX7_open_9 rfl (lv_at hl 0 rfl) ?_
    refine m_get C hP mC_126 rfl inX7 0 (by decide) wf_X7_10 rfl dX7_open_10 ?_
    refine lv_iload_n hx hb dX7_open_13 rfl (lv_at hl 1 rfl) ?_
    obtain ⟨r_6, X_6, h_6, hf7⟩ := m_bi_s hf4
    clear hf4
    refine m_callVi (q := (RX3, TX3, 12)) C [.int v1] [] (c_X3_openCommitOf l D a cy hG N _ _ h_6) (m_goodV wl_X7_131 wi_X3_openCommitOf ws_X3_openCommitOf wn_X3 wc_X3_openCommitOf) ⟨rfl, rfl⟩ hv_X3_openCommitOf ⟨Nat.le_of_ble_eq_true rfl, Nat.le_of_ble_eq_true rfl⟩ rfl mC_0 hP hS rfl hl.1 rfl (Nat.le_of_ble_eq_true rfl) dX7_open_14 (fun H locs hP hS => ?_)
    exact m_iret C hP hS dX7_open_17 hf7
  · have hf5 := m_it c_3 hf2
    clear hf2
    refine lv_iconst (v := (-1)) hx hb dX7_open_7 (by decide) ?_
    exact m_iret C hP hS dX7_open_8 hf5
abbrev rm_X7_queued : Room := { frames := 3, cells := 0, slots := 0, locals := 62 }
def f_X7_queued (N : Nat) (v1 : Int32) (X : XT) : Option (Int32 × XT) := if 0 ≤ v1 then (m_bi (f_X3_queuedAt N v1 X) fun r_4 X_4 => some (r_4, X_4)) else (some ((-2), X))
set_option maxHeartbeats 4000000 in
set_option maxRecDepth 100000 in
theorem c_X7_queued (l : Launch) (D : va_G) (a : Nat → Nat) (cy : Nat → ClassId) (hG : m_inj 131 a) (N : Nat) (v1 : Int32) (X : XT) {r0 : Int32} {X0 : XT} (hf0 : f_X7_queued N v1 X = some (r0, X0)) : Met l yX7_queued (Cond.code yX7_queued cX7_queued 2 (some .int) :: m_tbl) rm_X7_queued (va_Pc [.ref (a 126), .int v1] (m_PX D (m_tc cy) (m_WC a cy) (m_ZC a) X)) (m_QI D (m_WC a cy) (m_AC a) r0 X0) 0 0 (m_AC a) := by
  refine m_met (own := RX7) hy_X7_queued rfl (Nat.le_of_ble_eq_true rfl) (m_wl_D hG _) m_ZC_keep ?_
  intro p e s m args below meth c C ls hl hP hS
  have hx := C.1.1
  have hb := C.1.2.1
  have hl : lv_has ls 2 [(0, .ref (a 126)), (1, .int v1)] := hl
  unfold f_X7_queued at hf0
  suffices K : ∀ (H : Heap) (locs : List Loc), va_P D vwCl (m_WC a cy X) H → va_S (m_AC a) s.heap H locs → W p l e rm_X7_queued s m args below meth c H locs 0 0 (MQ below (m_QI D (m_WC a cy) (m_AC a) r0 X0) args s 0 0 (m_AC a)) (F0 m 0 ls []) from K _ _ hP hS
  clear hP hS
  intro H locs hP hS
  refine lv_iload_n hx hb dX7_queued_0 rfl (lv_at hl 1 rfl) ?_
  refine lv_if_ge (tgt := 7) hx hb dX7_queued_1 (by decide) (fun c_1 => ?_) (fun c_1 => ?_)
  · have hf2 := m_it c_1 hf0
    clear hf0
    refine lv_aload_n hx hb dX7_queued_7 rfl (lv_at hl 0 rfl) ?_
    refine m_get C hP mC_126 rfl inX7 0 (by decide) wf_X7_10 rfl dX7_queued_8 ?_
    refine lv_iload_n hx hb dX7_queued_11 rfl (lv_at hl 1 rfl) ?_
    obtain ⟨r_4, X_4, h_4, hf5⟩ := m_bi_s hf2
    clear hf2
    refine m_callVi (q := (RX3, TX3, 12)) C [.int v1] [] (c_X3_queuedAt l D a cy hG N _ _ h_4) (m_goodV wl_X7_134 wi_X3_queuedAt ws_X3_queuedAt wn_X3 wc_X3_queuedAt) ⟨rfl, rfl⟩ hv_X3_queuedAt ⟨Nat.le_of_ble_eq_true rfl, Nat.le_of_ble_eq_true rfl⟩ rfl mC_0 hP hS rfl hl.1 rfl (Nat.le_of_ble_eq_true rfl) dX7_queued_12 (fun H locs hP hS => ?_)
    exact m_iret C hP hS dX7_queued_15 hf5
  · have hf3 := m_ie c_1 hf0
    clear hf0
    refine lv_bipush (v := (-2)) hx hb dX7_queued_4 (by decide) ?_
    exact m_iret C hP hS dX7_queued_6 hf3
abbrev rm_X7_count : Room := { frames := 2, cells := 0, slots := 0, locals := 43 }
def f_X7_count (N : Nat) (v1 : Int32) (X : XT) : Option (Int32 × XT) := if v1 = 10 then (m_bi (f_X2_size N X) fun r_11 X_11 => some (r_11, X_11)) else (if v1 = 11 then (m_bi (f_X5_length N X) fun r_9 X_9 => some (r_9, X_9)) else (m_bi (f_X3_aboutNow N v1 X) fun r_7 X_7 => some (r_7, X_7)))
set_option maxHeartbeats 4000000 in
set_option maxRecDepth 100000 in
theorem c_X7_count (l : Launch) (D : va_G) (a : Nat → Nat) (cy : Nat → ClassId) (hG : m_inj 131 a) (N : Nat) (v1 : Int32) (X : XT) {r0 : Int32} {X0 : XT} (hf0 : f_X7_count N v1 X = some (r0, X0)) : Met l yX7_count (Cond.code yX7_count cX7_count 2 (some .int) :: m_tbl) rm_X7_count (va_Pc [.ref (a 126), .int v1] (m_PX D (m_tc cy) (m_WC a cy) (m_ZC a) X)) (m_QI D (m_WC a cy) (m_AC a) r0 X0) 0 0 (m_AC a) := by
  refine m_met (own := RX7) hy_X7_count rfl (Nat.le_of_ble_eq_true rfl) (m_wl_D hG _) m_ZC_keep ?_
  intro p e s m args below meth c C ls hl hP hS
  have hx := C.1.1
  have hb := C.1.2.1
  have hl : lv_has ls 2 [(0, .ref (a 126)), (1, .int v1)] := hl
  unfold f_X7_count at hf0
  suffices K : ∀ (H : Heap) (locs : List Loc), va_P D vwCl (m_WC a cy X) H → va_S (m_AC a) s.heap H locs → W p l e rm_X7_count s m args below meth c H locs 0 0 (MQ below (m_QI D (m_WC a cy) (m_AC a) r0 X0) args s 0 0 (m_AC a)) (F0 m 0 ls []) from K _ _ hP hS
  clear hP hS
  intro H locs hP hS
  refine lv_iload_n hx hb dX7_count_0 rfl (lv_at hl 1 rfl) ?_
  refine lv_bipush (v := 10) hx hb dX7_count_1 (by decide) ?_
  refine lv_icmp_ne (tgt := 14) hx hb dX7_count_3 (by decide) (fun c_1 => ?_) (fun c_1 => ?_)
  · have hf2 := m_ie c_1 hf0
    clear hf0
    refine lv_iload_n hx hb dX7_count_14 rfl (lv_at hl 1 rfl) ?_
    refine lv_bipush (v := 11) hx hb dX7_count_15 (by decide) ?_
    refine lv_icmp_ne (tgt := 28) hx hb dX7_count_17 (by decide) (fun c_4 => ?_) (fun c_4 => ?_)
    · have hf5 := m_ie c_4 hf2
      clear hf2
      refine lv_aload_n hx hb dX7_count_28 rfl (lv_at hl 0 rfl) ?_
      refine m_get C hP mC_126 rfl inX7 0 (by decide) wf_X7_10 rfl dX7_count_29 ?_
      refine lv_iload_n hx hb dX7_count_32 rfl (lv_at hl 1 rfl) ?_
      obtain ⟨r_7, X_7, h_7, hf8⟩ := m_bi_s hf5
      clear hf5
      refine m_callVi (q := (RX3, TX3, 12)) C [.int v1] [] (c_X3_aboutNow l D a cy hG N _ _ h_7) (m_goodV wl_X7_143 wi_X3_aboutNow ws_X3_aboutNow wn_X3 wc_X3_aboutNow) ⟨rfl, rfl⟩ hv_X3_aboutNow ⟨Nat.le_of_ble_eq_true rfl, Nat.le_of_ble_eq_true rfl⟩ rfl mC_0 hP hS rfl hl.1 rfl (Nat.le_of_ble_eq_true rfl) dX7_count_33 (fun H locs hP hS => ?_)
      exact m_iret C hP hS dX7_count_36 hf8
    · have hf6 := m_it c_4 hf2
      clear hf2
      refine lv_aload_n hx hb dX7_count_20 rfl (lv_at hl 0 rfl) ?_
      refine m_get C hP mC_126 rfl inX7 3 (by decide) wf_X7_29 rfl dX7_count_21 ?_
      obtain ⟨r_9, X_9, h_9, hf10⟩ := m_bi_s hf6
      clear hf6
      refine m_callVi (q := (RX5, TX5, 7)) C [] [] (c_X5_length l D a cy hG N _ h_9) (m_goodV wl_X7_140 wi_X5_length ws_X5_length wn_X5 wc_X5_length) ⟨rfl, rfl⟩ hv_X5_length ⟨Nat.le_of_ble_eq_true rfl, Nat.le_of_ble_eq_true rfl⟩ rfl mC_129 hP hS rfl hl.1 rfl (Nat.le_of_ble_eq_true rfl) dX7_count_24 (fun H locs hP hS => ?_)
      exact m_iret C hP hS dX7_count_27 hf10
  · have hf3 := m_it c_1 hf0
    clear hf0
    refine lv_aload_n hx hb dX7_count_6 rfl (lv_at hl 0 rfl) ?_
    refine m_get C hP mC_126 rfl inX7 2 (by decide) wf_X7_22 rfl dX7_count_7 ?_
    obtain ⟨r_11, X_11, h_11, hf12⟩ := m_bi_s hf3
    clear hf3
    refine m_callVi (q := (RX2, TX2, 3)) C [] [] (c_X2_size l D a cy hG N _ h_11) (m_goodV wl_X7_137 wi_X2_size ws_X2_size wn_X2 wc_X2_size) ⟨rfl, rfl⟩ hv_X2_size ⟨Nat.le_of_ble_eq_true rfl, Nat.le_of_ble_eq_true rfl⟩ rfl mC_127 hP hS rfl hl.1 rfl (Nat.le_of_ble_eq_true rfl) dX7_count_10 (fun H locs hP hS => ?_)
    exact m_iret C hP hS dX7_count_13 hf12
abbrev rm_X7_total : Room := { frames := 1, cells := 0, slots := 0, locals := 21 }
def f_X7_total (N : Nat) (v1 : Int32) (X : XT) : Option (Int32 × XT) := m_bi (f_X3_totalOf N v1 X) fun r_1 X_1 => some (r_1, X_1)
set_option maxHeartbeats 4000000 in
set_option maxRecDepth 100000 in
theorem c_X7_total (l : Launch) (D : va_G) (a : Nat → Nat) (cy : Nat → ClassId) (hG : m_inj 131 a) (N : Nat) (v1 : Int32) (X : XT) {r0 : Int32} {X0 : XT} (hf0 : f_X7_total N v1 X = some (r0, X0)) : Met l yX7_total (Cond.code yX7_total cX7_total 2 (some .int) :: m_tbl) rm_X7_total (va_Pc [.ref (a 126), .int v1] (m_PX D (m_tc cy) (m_WC a cy) (m_ZC a) X)) (m_QI D (m_WC a cy) (m_AC a) r0 X0) 0 0 (m_AC a) := by
  refine m_met (own := RX7) hy_X7_total rfl (Nat.le_of_ble_eq_true rfl) (m_wl_D hG _) m_ZC_keep ?_
  intro p e s m args below meth c C ls hl hP hS
  have hx := C.1.1
  have hb := C.1.2.1
  have hl : lv_has ls 2 [(0, .ref (a 126)), (1, .int v1)] := hl
  unfold f_X7_total at hf0
  suffices K : ∀ (H : Heap) (locs : List Loc), va_P D vwCl (m_WC a cy X) H → va_S (m_AC a) s.heap H locs → W p l e rm_X7_total s m args below meth c H locs 0 0 (MQ below (m_QI D (m_WC a cy) (m_AC a) r0 X0) args s 0 0 (m_AC a)) (F0 m 0 ls []) from K _ _ hP hS
  clear hP hS
  intro H locs hP hS
  refine lv_aload_n hx hb dX7_total_0 rfl (lv_at hl 0 rfl) ?_
  refine m_get C hP mC_126 rfl inX7 0 (by decide) wf_X7_10 rfl dX7_total_1 ?_
  refine lv_iload_n hx hb dX7_total_4 rfl (lv_at hl 1 rfl) ?_
  obtain ⟨r_1, X_1, h_1, hf2⟩ := m_bi_s hf0
  clear hf0
  refine m_callVi (q := (RX3, TX3, 12)) C [.int v1] [] (c_X3_totalOf l D a cy hG N _ _ h_1) (m_goodV wl_X7_146 wi_X3_totalOf ws_X3_totalOf wn_X3 wc_X3_totalOf) ⟨rfl, rfl⟩ hv_X3_totalOf ⟨Nat.le_of_ble_eq_true rfl, Nat.le_of_ble_eq_true rfl⟩ rfl mC_0 hP hS rfl hl.1 rfl (Nat.le_of_ble_eq_true rfl) dX7_total_5 (fun H locs hP hS => ?_)
  exact m_iret C hP hS dX7_total_8 hf2
abbrev rm_X7_answeredIn : Room := { frames := 4, cells := 0, slots := 0, locals := 87 }
def f_X7_answeredIn (N : Nat) (v1 : Int32) (X : XT) : Option (Int32 × XT) := m_bi (f_X3_isClient N v1 X) fun r_1 X_1 => if r_1 = 0 then (some ((-1), X_1)) else (m_bi (f_X3_ticksToAnswer N v1 X_1) fun r_6 X_6 => some (r_6, X_6))
set_option maxHeartbeats 4000000 in
set_option maxRecDepth 100000 in
theorem c_X7_answeredIn (l : Launch) (D : va_G) (a : Nat → Nat) (cy : Nat → ClassId) (hG : m_inj 131 a) (N : Nat) (v1 : Int32) (X : XT) {r0 : Int32} {X0 : XT} (hf0 : f_X7_answeredIn N v1 X = some (r0, X0)) : Met l yX7_answeredIn (Cond.code yX7_answeredIn cX7_answeredIn 2 (some .int) :: m_tbl) rm_X7_answeredIn (va_Pc [.ref (a 126), .int v1] (m_PX D (m_tc cy) (m_WC a cy) (m_ZC a) X)) (m_QI D (m_WC a cy) (m_AC a) r0 X0) 0 0 (m_AC a) := by
  refine m_met (own := RX7) hy_X7_answeredIn rfl (Nat.le_of_ble_eq_true rfl) (m_wl_D hG _) m_ZC_keep ?_
  intro p e s m args below meth c C ls hl hP hS
  have hx := C.1.1
  have hb := C.1.2.1
  have hl : lv_has ls 2 [(0, .ref (a 126)), (1, .int v1)] := hl
  unfold f_X7_answeredIn at hf0
  suffices K : ∀ (H : Heap) (locs : List Loc), va_P D vwCl (m_WC a cy X) H → va_S (m_AC a) s.heap H locs → W p l e rm_X7_answeredIn s m args below meth c H locs 0 0 (MQ below (m_QI D (m_WC a cy) (m_AC a) r0 X0) args s 0 0 (m_AC a)) (F0 m 0 ls []) from K _ _ hP hS
  clear hP hS
  intro H locs hP hS
  refine lv_iload_n hx hb dX7_answeredIn_0 rfl (lv_at hl 1 rfl) ?_
  obtain ⟨r_1, X_1, h_1, hf2⟩ := m_bi_s hf0
  clear hf0
  refine m_callSi C [.int v1] [] (c_X3_isClient l D a cy hG N _ _ h_1) (m_goodS wl_X7_45 wst_X3_isClient wn_X3 wc_X3_isClient) ⟨rfl, rfl⟩ hv_X3_isClient ⟨Nat.le_of_ble_eq_true rfl, Nat.le_of_ble_eq_true rfl⟩ hP hS rfl hl.1 rfl (Nat.le_of_ble_eq_true rfl) dX7_answeredIn_1 (fun H locs hP hS => ?_)
  refine lv_if_ne (tgt := 9) hx hb dX7_answeredIn_4 (by decide) (fun c_3 => ?_) (fun c_3 => ?_)
  · have hf4 := m_ie c_3 hf2
    clear hf2
    refine lv_aload_n hx hb dX7_answeredIn_9 rfl (lv_at hl 0 rfl) ?_
    refine m_get C hP mC_126 rfl inX7 0 (by decide) wf_X7_10 rfl dX7_answeredIn_10 ?_
    refine lv_iload_n hx hb dX7_answeredIn_13 rfl (lv_at hl 1 rfl) ?_
    obtain ⟨r_6, X_6, h_6, hf7⟩ := m_bi_s hf4
    clear hf4
    refine m_callVi (q := (RX3, TX3, 12)) C [.int v1] [] (c_X3_ticksToAnswer l D a cy hG N _ _ h_6) (m_goodV wl_X7_149 wi_X3_ticksToAnswer ws_X3_ticksToAnswer wn_X3 wc_X3_ticksToAnswer) ⟨rfl, rfl⟩ hv_X3_ticksToAnswer ⟨Nat.le_of_ble_eq_true rfl, Nat.le_of_ble_eq_true rfl⟩ rfl mC_0 hP hS rfl hl.1 rfl (Nat.le_of_ble_eq_true rfl) dX7_answeredIn_14 (fun H locs hP hS => ?_)
    exact m_iret C hP hS dX7_answeredIn_17 hf7
  · have hf5 := m_it c_3 hf2
    clear hf2
    refine lv_iconst (v := (-1)) hx hb dX7_answeredIn_7 (by decide) ?_
    exact m_iret C hP hS dX7_answeredIn_8 hf5
abbrev rm_X7_ifSubmitted : Room := { frames := 4, cells := 0, slots := 0, locals := 89 }
def f_X7_ifSubmitted (N : Nat) (v1 : Int32) (v2 : Int32) (X : XT) : Option (Int32 × XT) := m_bi (f_X3_refusalOfAnyEntry N v1 X) fun r_1 X_1 => if r_1 = 0 then (m_bi (f_X3_ticksIfEntered N v1 v2 X_1) fun r_6 X_6 => some (r_6, X_6)) else (some (r_1, X_1))
set_option maxHeartbeats 4000000 in
set_option maxRecDepth 100000 in
theorem c_X7_ifSubmitted (l : Launch) (D : va_G) (a : Nat → Nat) (cy : Nat → ClassId) (hG : m_inj 131 a) (N : Nat) (v1 : Int32) (v2 : Int32) (X : XT) {r0 : Int32} {X0 : XT} (hf0 : f_X7_ifSubmitted N v1 v2 X = some (r0, X0)) : Met l yX7_ifSubmitted (Cond.code yX7_ifSubmitted cX7_ifSubmitted 4 (some .int) :: m_tbl) rm_X7_ifSubmitted (va_Pc [.ref (a 126), .int v1, .int v2] (m_PX D (m_tc cy) (m_WC a cy) (m_ZC a) X)) (m_QI D (m_WC a cy) (m_AC a) r0 X0) 0 0 (m_AC a) := by
  refine m_met (own := RX7) hy_X7_ifSubmitted rfl (Nat.le_of_ble_eq_true rfl) (m_wl_D hG _) m_ZC_keep ?_
  intro p e s m args below meth c C ls hl hP hS
  have hx := C.1.1
  have hb := C.1.2.1
  have hl : lv_has ls 4 [(0, .ref (a 126)), (1, .int v1), (2, .int v2)] := hl
  unfold f_X7_ifSubmitted at hf0
  suffices K : ∀ (H : Heap) (locs : List Loc), va_P D vwCl (m_WC a cy X) H → va_S (m_AC a) s.heap H locs → W p l e rm_X7_ifSubmitted s m args below meth c H locs 0 0 (MQ below (m_QI D (m_WC a cy) (m_AC a) r0 X0) args s 0 0 (m_AC a)) (F0 m 0 ls []) from K _ _ hP hS
  clear hP hS
  intro H locs hP hS
  refine lv_aload_n hx hb dX7_ifSubmitted_0 rfl (lv_at hl 0 rfl) ?_
  refine m_get C hP mC_126 rfl inX7 0 (by decide) wf_X7_10 rfl dX7_ifSubmitted_1 ?_
  refine lv_iload_n hx hb dX7_ifSubmitted_4 rfl (lv_at hl 1 rfl) ?_
  obtain ⟨r_1, X_1, h_1, hf2⟩ := m_bi_s hf0
  clear hf0
  refine m_callVi (q := (RX3, TX3, 12)) C [.int v1] [] (c_X3_refusalOfAnyEntry l D a cy hG N _ _ h_1) (m_goodV wl_X7_152 wi_X3_refusalOfAnyEntry ws_X3_refusalOfAnyEntry wn_X3 wc_X3_refusalOfAnyEntry) ⟨rfl, rfl⟩ hv_X3_refusalOfAnyEntry ⟨Nat.le_of_ble_eq_true rfl, Nat.le_of_ble_eq_true rfl⟩ rfl mC_0 hP hS rfl hl.1 rfl (Nat.le_of_ble_eq_true rfl) dX7_ifSubmitted_5 (fun H locs hP hS => ?_)
  refine lv_istore_n (lv' := [(3, .int r_1), (0, .ref (a 126)), (1, .int v1), (2, .int v2)]) hx hb dX7_ifSubmitted_8 rfl hl (by decide) rfl (fun ls hl => ?_)
  refine lv_iload_n hx hb dX7_ifSubmitted_9 rfl (lv_at hl 0 rfl) ?_
  refine lv_if_eq (tgt := 15) hx hb dX7_ifSubmitted_10 (by decide) (fun c_3 => ?_) (fun c_3 => ?_)
  · have hf4 := m_it c_3 hf2
    clear hf2
    refine lv_aload_n hx hb dX7_ifSubmitted_15 rfl (lv_at hl 1 rfl) ?_
    refine m_get C hP mC_126 rfl inX7 0 (by decide) wf_X7_10 rfl dX7_ifSubmitted_16 ?_
    refine lv_iload_n hx hb dX7_ifSubmitted_19 rfl (lv_at hl 2 rfl) ?_
    refine lv_iload_n hx hb dX7_ifSubmitted_20 rfl (lv_at hl 3 rfl) ?_
    obtain ⟨r_6, X_6, h_6, hf7⟩ := m_bi_s hf4
    clear hf4
    refine m_callVi (q := (RX3, TX3, 12)) C [.int v1, .int v2] [] (c_X3_ticksIfEntered l D a cy hG N _ _ _ h_6) (m_goodV wl_X7_155 wi_X3_ticksIfEntered ws_X3_ticksIfEntered wn_X3 wc_X3_ticksIfEntered) ⟨rfl, rfl⟩ hv_X3_ticksIfEntered ⟨Nat.le_of_ble_eq_true rfl, Nat.le_of_ble_eq_true rfl⟩ rfl mC_0 hP hS rfl hl.1 rfl (Nat.le_of_ble_eq_true rfl) dX7_ifSubmitted_21 (fun H locs hP hS => ?_)
    exact m_iret C hP hS dX7_ifSubmitted_24 hf7
  · have hf5 := m_ie c_3 hf2
    clear hf2
    refine lv_iload_n hx hb dX7_ifSubmitted_13 rfl (lv_at hl 0 rfl) ?_
    exact m_iret C hP hS dX7_ifSubmitted_14 hf5
abbrev rm_X7_idleIn : Room := { frames := 5, cells := 0, slots := 0, locals := 109 }
def f_X7_idleIn (N : Nat) (X : XT) : Option (Int32 × XT) := m_bi (f_X3_ticksToIdle N X) fun r_1 X_1 => some (r_1, X_1)
set_option maxHeartbeats 4000000 in
set_option maxRecDepth 100000 in
theorem c_X7_idleIn (l : Launch) (D : va_G) (a : Nat → Nat) (cy : Nat → ClassId) (hG : m_inj 131 a) (N : Nat) (X : XT) {r0 : Int32} {X0 : XT} (hf0 : f_X7_idleIn N X = some (r0, X0)) : Met l yX7_idleIn (Cond.code yX7_idleIn cX7_idleIn 1 (some .int) :: m_tbl) rm_X7_idleIn (va_Pc [.ref (a 126)] (m_PX D (m_tc cy) (m_WC a cy) (m_ZC a) X)) (m_QI D (m_WC a cy) (m_AC a) r0 X0) 0 0 (m_AC a) := by
  refine m_met (own := RX7) hy_X7_idleIn rfl (Nat.le_of_ble_eq_true rfl) (m_wl_D hG _) m_ZC_keep ?_
  intro p e s m args below meth c C ls hl hP hS
  have hx := C.1.1
  have hb := C.1.2.1
  have hl : lv_has ls 1 [(0, .ref (a 126))] := hl
  unfold f_X7_idleIn at hf0
  suffices K : ∀ (H : Heap) (locs : List Loc), va_P D vwCl (m_WC a cy X) H → va_S (m_AC a) s.heap H locs → W p l e rm_X7_idleIn s m args below meth c H locs 0 0 (MQ below (m_QI D (m_WC a cy) (m_AC a) r0 X0) args s 0 0 (m_AC a)) (F0 m 0 ls []) from K _ _ hP hS
  clear hP hS
  intro H locs hP hS
  refine lv_aload_n hx hb dX7_idleIn_0 rfl (lv_at hl 0 rfl) ?_
  refine m_get C hP mC_126 rfl inX7 0 (by decide) wf_X7_10 rfl dX7_idleIn_1 ?_
  obtain ⟨r_1, X_1, h_1, hf2⟩ := m_bi_s hf0
  clear hf0
  refine m_callVi (q := (RX3, TX3, 12)) C [] [] (c_X3_ticksToIdle l D a cy hG N _ h_1) (m_goodV wl_X7_159 wi_X3_ticksToIdle ws_X3_ticksToIdle wn_X3 wc_X3_ticksToIdle) ⟨rfl, rfl⟩ hv_X3_ticksToIdle ⟨Nat.le_of_ble_eq_true rfl, Nat.le_of_ble_eq_true rfl⟩ rfl mC_0 hP hS rfl hl.1 rfl (Nat.le_of_ble_eq_true rfl) dX7_idleIn_4 (fun H locs hP hS => ?_)
  exact m_iret C hP hS dX7_idleIn_7 hf2
