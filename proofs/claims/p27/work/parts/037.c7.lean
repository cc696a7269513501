-- written by wip/gen/gen.py
abbrev rm_X7_submit : Room := { frames := 4, cells := 0, slots := 0, locals := 104 }
def f_X7_submit (N : Nat) (v1 : Int32) (v2 : Int32) (v3 : Int32) (X : XT) : Option (Int32 × XT) := m_bi (f_X3_refusalToEnter N v1 v2 X) fun r_1 X_1 => if r_1 = 0 then (m_bv (f_X2_push N X_1) fun X_6 => m_bi (f_X3_enter N v1 v2 v3 X_6) fun r_8 X_8 => some (r_8, X_8)) else (some (r_1, X_1))
set_option maxHeartbeats 4000000 in
set_option maxRecDepth 100000 in
theorem c_X7_submit (l : Launch) (D : va_G) (a : Nat → Nat) (cy : Nat → ClassId) (hG : m_inj 138 a) (N : Nat) (v1 : Int32) (v2 : Int32) (v3 : Int32) (X : XT) {r0 : Int32} {X0 : XT} (hf0 : f_X7_submit N v1 v2 v3 X = some (r0, X0)) : Met l yX7_submit (Cond.code yX7_submit cX7_submit 5 (some .int) :: m_tbl) rm_X7_submit (va_Pc [.ref (a 126), .int v1, .int v2, .int v3] (m_PX D (m_tc cy) (m_WC a cy) (m_ZC a) X)) (m_QI D (m_WC a cy) (m_AC a) r0 X0) 0 0 (m_AC a) := by
  refine m_met (own := RX7) hy_X7_submit rfl (Nat.le_of_ble_eq_true rfl) (m_wl_D hG _) m_ZC_keep ?_
  intro p e s m args below meth c C ls hl hP hS
  have hx := C.1.1
  have hb := C.1.2.1
  have hl : lv_has ls 5 [(0, .ref (a 126)), (1, .int v1), (2, .int v2), (3, .int v3)] := hl
  unfold f_X7_submit at hf0
  suffices K : ∀ (H : Heap) (locs : List Loc), va_P D vwCl (m_WC a cy X) H → va_S (m_AC a) s.heap H locs → W p l e rm_X7_submit s m args below meth c H locs 0 0 (MQ below (m_QI D (m_WC a cy) (m_AC a) r0 X0) args s 0 0 (m_AC a)) (F0 m 0 ls []) from K _ _ hP hS
  clear hP hS
  intro H locs hP hS
  refine lv_aload_n hx hb dX7_submit_0 rfl (lv_at hl 0 rfl) ?_
  refine m_get C hP mC_126 rfl inX7 0 (by decide) wf_X7_10 rfl dX7_submit_1 ?_
  refine lv_iload_n hx hb dX7_submit_4 rfl (lv_at hl 1 rfl) ?_
  refine lv_iload_n hx hb dX7_submit_5 rfl (lv_at hl 2 rfl) ?_
  obtain ⟨r_1, X_1, h_1, hf2⟩ := m_bi_s hf0
  clear hf0
  refine m_callVi (q := (RX3, TX3, 12)) C [.int v1, .int v2] [] (c_X3_refusalToEnter l D a cy hG N _ _ _ h_1) (m_goodV wl_X7_33 wi_X3_refusalToEnter ws_X3_refusalToEnter wn_X3 wc_X3_refusalToEnter) ⟨rfl, rfl⟩ hv_X3_refusalToEnter ⟨Nat.le_of_ble_eq_true rfl, Nat.le_of_ble_eq_true rfl⟩ rfl mC_0 hP hS rfl hl.1 rfl (Nat.le_of_ble_eq_true rfl) dX7_submit_6 (fun H locs hP hS => ?_)
  refine lv_istore (lv' := [(4, .int r_1), (0, .ref (a 126)), (1, .int v1), (2, .int v2), (3, .int v3)]) hx hb dX7_submit_9 hl (by decide) rfl (fun ls hl => ?_)
  refine lv_iload hx hb dX7_submit_11 (lv_at hl 0 rfl) ?_
  refine lv_if_eq (tgt := 19) hx hb dX7_submit_13 (by decide) (fun c_3 => ?_) (fun c_3 => ?_)
  · have hf4 := m_it c_3 hf2
    clear hf2
    refine lv_aload_n hx hb dX7_submit_19 rfl (lv_at hl 1 rfl) ?_
    refine m_get C hP mC_126 rfl inX7 2 (by decide) wf_X7_22 rfl dX7_submit_20 ?_
    refine lv_aload_n hx hb dX7_submit_23 rfl (lv_at hl 1 rfl) ?_
    refine m_get C hP mC_126 rfl inX7 0 (by decide) wf_X7_10 rfl dX7_submit_24 ?_
    obtain ⟨X_6, h_6, hf7⟩ := m_bv_s hf4
    clear hf4
    refine m_callVv (q := (RX2, TX2, 3)) C [.ref (a 0)] [] (c_X2_push l D a cy hG N _ h_6) (m_goodV wl_X7_37 wi_X2_push ws_X2_push wn_X2 wc_X2_push) ⟨rfl, rfl⟩ hv_X2_push ⟨Nat.le_of_ble_eq_true rfl, Nat.le_of_ble_eq_true rfl⟩ rfl mC_127 hP hS rfl hl.1 rfl (Nat.le_of_ble_eq_true rfl) dX7_submit_27 (fun H locs hP hS => ?_)
    refine lv_aload_n hx hb dX7_submit_30 rfl (lv_at hl 1 rfl) ?_
    refine m_get C hP mC_126 rfl inX7 0 (by decide) wf_X7_10 rfl dX7_submit_31 ?_
    refine lv_iload_n hx hb dX7_submit_34 rfl (lv_at hl 2 rfl) ?_
    refine lv_iload_n hx hb dX7_submit_35 rfl (lv_at hl 3 rfl) ?_
    refine lv_iload_n hx hb dX7_submit_36 rfl (lv_at hl 4 rfl) ?_
    obtain ⟨r_8, X_8, h_8, hf9⟩ := m_bi_s hf7
    clear hf7
    refine m_callVi (q := (RX3, TX3, 12)) C [.int v1, .int v2, .int v3] [] (c_X3_enter l D a cy hG N _ _ _ _ h_8) (m_goodV wl_X7_41 wi_X3_enter ws_X3_enter wn_X3 wc_X3_enter) ⟨rfl, rfl⟩ hv_X3_enter ⟨Nat.le_of_ble_eq_true rfl, Nat.le_of_ble_eq_true rfl⟩ rfl mC_0 hP hS rfl hl.1 rfl (Nat.le_of_ble_eq_true rfl) dX7_submit_37 (fun H locs hP hS => ?_)
    exact m_iret C hP hS dX7_submit_40 hf9
  · have hf5 := m_ie c_3 hf2
    clear hf2
    refine lv_iload hx hb dX7_submit_16 (lv_at hl 0 rfl) ?_
    exact m_iret C hP hS dX7_submit_18 hf5
abbrev rm_X7_fail : Room := { frames := 4, cells := 0, slots := 0, locals := 104 }
def f_X7_fail (N : Nat) (v1 : Int32) (X : XT) : Option (Int32 × XT) := m_bi (f_X3_isClient N v1 X) fun r_1 X_1 => if r_1 = 0 then (some ((-1), X_1)) else (m_bv (f_X2_push N X_1) fun X_6 => m_bi (f_X3_loseClient N v1 X_6) fun r_8 X_8 => some (r_8, X_8))
set_option maxHeartbeats 4000000 in
set_option maxRecDepth 100000 in
theorem c_X7_fail (l : Launch) (D : va_G) (a : Nat → Nat) (cy : Nat → ClassId) (hG : m_inj 138 a) (N : Nat) (v1 : Int32) (X : XT) {r0 : Int32} {X0 : XT} (hf0 : f_X7_fail N v1 X = some (r0, X0)) : Met l yX7_fail (Cond.code yX7_fail cX7_fail 2 (some .int) :: m_tbl) rm_X7_fail (va_Pc [.ref (a 126), .int v1] (m_PX D (m_tc cy) (m_WC a cy) (m_ZC a) X)) (m_QI D (m_WC a cy) (m_AC a) r0 X0) 0 0 (m_AC a) := by
  refine m_met (own := RX7) hy_X7_fail rfl (Nat.le_of_ble_eq_true rfl) (m_wl_D hG _) m_ZC_keep ?_
  intro p e s m args below meth c C ls hl hP hS
  have hx := C.1.1
  have hb := C.1.2.1
  have hl : lv_has ls 2 [(0, .ref (a 126)), (1, .int v1)] := hl
  unfold f_X7_fail at hf0
  suffices K : ∀ (H : Heap) (locs : List Loc), va_P D vwCl (m_WC a cy X) H → va_S (m_AC a) s.heap H locs → W p l e rm_X7_fail s m args below meth c H locs 0 0 (MQ below (m_QI D (m_WC a cy) (m_AC a) r0 X0) args s 0 0 (m_AC a)) (F0 m 0 ls []) from K _ _ hP hS
  clear hP hS
  intro H locs hP hS
  refine lv_iload_n hx hb dX7_fail_0 rfl (lv_at hl 1 rfl) ?_
  obtain ⟨r_1, X_1, h_1, hf2⟩ := m_bi_s hf0
  clear hf0
  refine m_callSi C [.int v1] [] (c_X3_isClient l D a cy hG N _ _ h_1) (m_goodS wl_X7_45 wst_X3_isClient wn_X3 wc_X3_isClient) ⟨rfl, rfl⟩ hv_X3_isClient ⟨Nat.le_of_ble_eq_true rfl, Nat.le_of_ble_eq_true rfl⟩ hP hS rfl hl.1 rfl (Nat.le_of_ble_eq_true rfl) dX7_fail_1 (fun H locs hP hS => ?_)
  refine lv_if_ne (tgt := 9) hx hb dX7_fail_4 (by decide) (fun c_3 => ?_) (fun c_3 => ?_)
  · have hf4 := m_ie c_3 hf2
    clear hf2
    refine lv_aload_n hx hb dX7_fail_9 rfl (lv_at hl 0 rfl) ?_
    refine m_get C hP mC_126 rfl inX7 2 (by decide) wf_X7_22 rfl dX7_fail_10 ?_
    refine lv_aload_n hx hb dX7_fail_13 rfl (lv_at hl 0 rfl) ?_
    refine m_get C hP mC_126 rfl inX7 0 (by decide) wf_X7_10 rfl dX7_fail_14 ?_
    obtain ⟨X_6, h_6, hf7⟩ := m_bv_s hf4
    clear hf4
    refine m_callVv (q := (RX2, TX2, 3)) C [.ref (a 0)] [] (c_X2_push l D a cy hG N _ h_6) (m_goodV wl_X7_37 wi_X2_push ws_X2_push wn_X2 wc_X2_push) ⟨rfl, rfl⟩ hv_X2_push ⟨Nat.le_of_ble_eq_true rfl, Nat.le_of_ble_eq_true rfl⟩ rfl mC_127 hP hS rfl hl.1 rfl (Nat.le_of_ble_eq_true rfl) dX7_fail_17 (fun H locs hP hS => ?_)
    refine lv_aload_n hx hb dX7_fail_20 rfl (lv_at hl 0 rfl) ?_
    refine m_get C hP mC_126 rfl inX7 0 (by decide) wf_X7_10 rfl dX7_fail_21 ?_
    refine lv_iload_n hx hb dX7_fail_24 rfl (lv_at hl 1 rfl) ?_
    obtain ⟨r_8, X_8, h_8, hf9⟩ := m_bi_s hf7
    clear hf7
    refine m_callVi (q := (RX3, TX3, 12)) C [.int v1] [] (c_X3_loseClient l D a cy hG N _ _ h_8) (m_goodV wl_X7_49 wi_X3_loseClient ws_X3_loseClient wn_X3 wc_X3_loseClient) ⟨rfl, rfl⟩ hv_X3_loseClient ⟨Nat.le_of_ble_eq_true rfl, Nat.le_of_ble_eq_true rfl⟩ rfl mC_0 hP hS rfl hl.1 rfl (Nat.le_of_ble_eq_true rfl) dX7_fail_25 (fun H locs hP hS => ?_)
    exact m_iret C hP hS dX7_fail_28 hf9
  · have hf5 := m_it c_3 hf2
    clear hf2
    refine lv_iconst (v := (-1)) hx hb dX7_fail_7 (by decide) ?_
    exact m_iret C hP hS dX7_fail_8 hf5
abbrev rm_X7_withdraw : Room := { frames := 4, cells := 0, slots := 0, locals := 104 }
def f_X7_withdraw (N : Nat) (v1 : Int32) (X : XT) : Option (Int32 × XT) := m_bi (f_X3_refusalToTakeBack N v1 X) fun r_1 X_1 => if r_1 = 0 then (m_bv (f_X2_push N X_1) fun X_6 => m_bi (f_X3_takeBack N v1 X_6) fun r_8 X_8 => some (r_8, X_8)) else (some (r_1, X_1))
set_option maxHeartbeats 4000000 in
set_option maxRecDepth 100000 in
theorem c_X7_withdraw (l : Launch) (D : va_G) (a : Nat → Nat) (cy : Nat → ClassId) (hG : m_inj 138 a) (N : Nat) (v1 : Int32) (X : XT) {r0 : Int32} {X0 : XT} (hf0 : f_X7_withdraw N v1 X = some (r0, X0)) : Met l yX7_withdraw (Cond.code yX7_withdraw cX7_withdraw 3 (some .int) :: m_tbl) rm_X7_withdraw (va_Pc [.ref (a 126), .int v1] (m_PX D (m_tc cy) (m_WC a cy) (m_ZC a) X)) (m_QI D (m_WC a cy) (m_AC a) r0 X0) 0 0 (m_AC a) := by
  refine m_met (own := RX7) hy_X7_withdraw rfl (Nat.le_of_ble_eq_true rfl) (m_wl_D hG _) m_ZC_keep ?_
  intro p e s m args below meth c C ls hl hP hS
  have hx := C.1.1
  have hb := C.1.2.1
  have hl : lv_has ls 3 [(0, .ref (a 126)), (1, .int v1)] := hl
  unfold f_X7_withdraw at hf0
  suffices K : ∀ (H : Heap) (locs : List Loc), va_P D vwCl (m_WC a cy X) H → va_S (m_AC a) s.heap H locs → W p l e rm_X7_withdraw s m args below meth c H locs 0 0 (MQ below (m_QI D (m_WC a cy) (m_AC a) r0 X0) args s 0 0 (m_AC a)) (F0 m 0 ls []) from K _ _ hP hS
  clear hP hS
  intro H locs hP hS
  refine lv_aload_n hx hb dX7_withdraw_0 rfl (lv_at hl 0 rfl) ?_
  refine m_get C hP mC_126 rfl inX7 0 (by decide) wf_X7_10 rfl dX7_withdraw_1 ?_
  refine lv_iload_n hx hb dX7_withdraw_4 rfl (lv_at hl 1 rfl) ?_
  obtain ⟨r_1, X_1, h_1, hf2⟩ := m_bi_s hf0
  clear hf0
  refine m_callVi (q := (RX3, TX3, 12)) C [.int v1] [] (c_X3_refusalToTakeBack l D a cy hG N _ _ h_1) (m_goodV wl_X7_53 wi_X3_refusalToTakeBack ws_X3_refusalToTakeBack wn_X3 wc_X3_refusalToTakeBack) ⟨rfl, rfl⟩ hv_X3_refusalToTakeBack ⟨Nat.le_of_ble_eq_true rfl, Nat.le_of_ble_eq_true rfl⟩ rfl mC_0 hP hS rfl hl.1 rfl (Nat.le_of_ble_eq_true rfl) dX7_withdraw_5 (fun H locs hP hS => ?_)
  refine lv_istore_n (lv' := [(2, .int r_1), (0, .ref (a 126)), (1, .int v1)]) hx hb dX7_withdraw_8 rfl hl (by decide) rfl (fun ls hl => ?_)
  refine lv_iload_n hx hb dX7_withdraw_9 rfl (lv_at hl 0 rfl) ?_
  refine lv_if_eq (tgt := 15) hx hb dX7_withdraw_10 (by decide) (fun c_3 => ?_) (fun c_3 => ?_)
  · have hf4 := m_it c_3 hf2
    clear hf2
    refine lv_aload_n hx hb dX7_withdraw_15 rfl (lv_at hl 1 rfl) ?_
    refine m_get C hP mC_126 rfl inX7 2 (by decide) wf_X7_22 rfl dX7_withdraw_16 ?_
    refine lv_aload_n hx hb dX7_withdraw_19 rfl (lv_at hl 1 rfl) ?_
    refine m_get C hP mC_126 rfl inX7 0 (by decide) wf_X7_10 rfl dX7_withdraw_20 ?_
    obtain ⟨X_6, h_6, hf7⟩ := m_bv_s hf4
    clear hf4
    refine m_callVv (q := (RX2, TX2, 3)) C [.ref (a 0)] [] (c_X2_push l D a cy hG N _ h_6) (m_goodV wl_X7_37 wi_X2_push ws_X2_push wn_X2 wc_X2_push) ⟨rfl, rfl⟩ hv_X2_push ⟨Nat.le_of_ble_eq_true rfl, Nat.le_of_ble_eq_true rfl⟩ rfl mC_127 hP hS rfl hl.1 rfl (Nat.le_of_ble_eq_true rfl) dX7_withdraw_23 (fun H locs hP hS => ?_)
    refine lv_aload_n hx hb dX7_withdraw_26 rfl (lv_at hl 1 rfl) ?_
    refine m_get C hP mC_126 rfl inX7 0 (by decide) wf_X7_10 rfl dX7_withdraw_27 ?_
    refine lv_iload_n hx hb dX7_withdraw_30 rfl (lv_at hl 2 rfl) ?_
    obtain ⟨r_8, X_8, h_8, hf9⟩ := m_bi_s hf7
    clear hf7
    refine m_callVi (q := (RX3, TX3, 12)) C [.int v1] [] (c_X3_takeBack l D a cy hG N _ _ h_8) (m_goodV wl_X7_56 wi_X3_takeBack ws_X3_takeBack wn_X3 wc_X3_takeBack) ⟨rfl, rfl⟩ hv_X3_takeBack ⟨Nat.le_of_ble_eq_true rfl, Nat.le_of_ble_eq_true rfl⟩ rfl mC_0 hP hS rfl hl.1 rfl (Nat.le_of_ble_eq_true rfl) dX7_withdraw_31 (fun H locs hP hS => ?_)
    exact m_iret C hP hS dX7_withdraw_34 hf9
  · have hf5 := m_ie c_3 hf2
    clear hf2
    refine lv_iload_n hx hb dX7_withdraw_13 rfl (lv_at hl 0 rfl) ?_
    exact m_iret C hP hS dX7_withdraw_14 hf5
abbrev rm_X7_crash : Room := { frames := 4, cells := 0, slots := 0, locals := 104 }
def f_X7_crash (N : Nat) (X : XT) : Option (Int32 × XT) := m_bv (f_X2_push N X) fun X_1 => m_bi (f_X3_loseAll N X_1) fun r_3 X_3 => some (r_3, X_3)
set_option maxHeartbeats 4000000 in
set_option maxRecDepth 100000 in
theorem c_X7_crash (l : Launch) (D : va_G) (a : Nat → Nat) (cy : Nat → ClassId) (hG : m_inj 138 a) (N : Nat) (X : XT) {r0 : Int32} {X0 : XT} (hf0 : f_X7_crash N X = some (r0, X0)) : Met l yX7_crash (Cond.code yX7_crash cX7_crash 1 (some .int) :: m_tbl) rm_X7_crash (va_Pc [.ref (a 126)] (m_PX D (m_tc cy) (m_WC a cy) (m_ZC a) X)) (m_QI D (m_WC a cy) (m_AC a) r0 X0) 0 0 (m_AC a) := by
  refine m_met (own := RX7) hy_X7_crash rfl (Nat.le_of_ble_eq_true rfl) (m_wl_D hG _) m_ZC_keep ?_
  intro p e s m args below meth c C ls hl hP hS
  have hx := C.1.1
  have hb := C.1.2.1
  have hl : lv_has ls 1 [(0, .ref (a 126))] := hl
  unfold f_X7_crash at hf0
  suffices K : ∀ (H : Heap) (locs : List Loc), va_P D vwCl (m_WC a cy X) H → va_S (m_AC a) s.heap H locs → W p l e rm_X7_crash s m args below meth c H locs 0 0 (MQ below (m_QI D (m_WC a cy) (m_AC a) r0 X0) args s 0 0 (m_AC a)) (F0 m 0 ls []) from K _ _ hP hS
  clear hP hS
  intro H locs hP hS
  refine lv_aload_n hx hb dX7_crash_0 rfl (lv_at hl 0 rfl) ?_
  refine m_get C hP mC_126 rfl inX7 2 (by decide) wf_X7_22 rfl dX7_crash_1 ?_
  refine lv_aload_n hx hb dX7_crash_4 rfl (lv_at hl 0 rfl) ?_
  refine m_get C hP mC_126 rfl inX7 0 (by decide) wf_X7_10 rfl dX7_crash_5 ?_
  obtain ⟨X_1, h_1, hf2⟩ := m_bv_s hf0
  clear hf0
  refine m_callVv (q := (RX2, TX2, 3)) C [.ref (a 0)] [] (c_X2_push l D a cy hG N _ h_1) (m_goodV wl_X7_37 wi_X2_push ws_X2_push wn_X2 wc_X2_push) ⟨rfl, rfl⟩ hv_X2_push ⟨Nat.le_of_ble_eq_true rfl, Nat.le_of_ble_eq_true rfl⟩ rfl mC_127 hP hS rfl hl.1 rfl (Nat.le_of_ble_eq_true rfl) dX7_crash_8 (fun H locs hP hS => ?_)
  refine lv_aload_n hx hb dX7_crash_11 rfl (lv_at hl 0 rfl) ?_
  refine m_get C hP mC_126 rfl inX7 0 (by decide) wf_X7_10 rfl dX7_crash_12 ?_
  obtain ⟨r_3, X_3, h_3, hf4⟩ := m_bi_s hf2
  clear hf2
  refine m_callVi (q := (RX3, TX3, 12)) C [] [] (c_X3_loseAll l D a cy hG N _ h_3) (m_goodV wl_X7_59 wi_X3_loseAll ws_X3_loseAll wn_X3 wc_X3_loseAll) ⟨rfl, rfl⟩ hv_X3_loseAll ⟨Nat.le_of_ble_eq_true rfl, Nat.le_of_ble_eq_true rfl⟩ rfl mC_0 hP hS rfl hl.1 rfl (Nat.le_of_ble_eq_true rfl) dX7_crash_15 (fun H locs hP hS => ?_)
  exact m_iret C hP hS dX7_crash_18 hf4
abbrev rm_X7_tick : Room := { frames := 5, cells := 0, slots := 0, locals := 117 }
def f_X7_tick (N : Nat) (v1 : Int32) (X : XT) : Option (Int32 × XT) := if v1 < 1 then (some ((-2), X)) else (if v1 ≤ 99 then (m_bv (f_X2_push N X) fun X_7 => m_bi (f_X3_passTicks N v1 X_7) fun r_9 X_9 => some (r_9, X_9)) else (some ((-2), X)))
set_option maxHeartbeats 4000000 in
set_option maxRecDepth 100000 in
theorem c_X7_tick (l : Launch) (D : va_G) (a : Nat → Nat) (cy : Nat → ClassId) (hG : m_inj 138 a) (N : Nat) (v1 : Int32) (X : XT) {r0 : Int32} {X0 : XT} (hf0 : f_X7_tick N v1 X = some (r0, X0)) : Met l yX7_tick (Cond.code yX7_tick cX7_tick 2 (some .int) :: m_tbl) rm_X7_tick (va_Pc [.ref (a 126), .int v1] (m_PX D (m_tc cy) (m_WC a cy) (m_ZC a) X)) (m_QI D (m_WC a cy) (m_AC a) r0 X0) 0 0 (m_AC a) := by
  refine m_met (own := RX7) hy_X7_tick rfl (Nat.le_of_ble_eq_true rfl) (m_wl_D hG _) m_ZC_keep ?_
  intro p e s m args below meth c C ls hl hP hS
  have hx := C.1.1
  have hb := C.1.2.1
  have hl : lv_has ls 2 [(0, .ref (a 126)), (1, .int v1)] := hl
  unfold f_X7_tick at hf0
  suffices K : ∀ (H : Heap) (locs : List Loc), va_P D vwCl (m_WC a cy X) H → va_S (m_AC a) s.heap H locs → W p l e rm_X7_tick s m args below meth c H locs 0 0 (MQ below (m_QI D (m_WC a cy) (m_AC a) r0 X0) args s 0 0 (m_AC a)) (F0 m 0 ls []) from K _ _ hP hS
  clear hP hS
  intro H locs hP hS
  refine lv_iload_n hx hb dX7_tick_0 rfl (lv_at hl 1 rfl) ?_
  refine lv_iconst (v := 1) hx hb dX7_tick_1 (by decide) ?_
  refine lv_icmp_lt (tgt := 11) hx hb dX7_tick_2 (by decide) (fun c_1 => ?_) (fun c_1 => ?_)
  · have hf2 := m_it c_1 hf0
    clear hf0
    refine lv_bipush (v := (-2)) hx hb dX7_tick_11 (by decide) ?_
    exact m_iret C hP hS dX7_tick_13 hf2
  · have hf3 := m_ie c_1 hf0
    clear hf0
    refine lv_iload_n hx hb dX7_tick_5 rfl (lv_at hl 1 rfl) ?_
    refine lv_bipush (v := 99) hx hb dX7_tick_6 (by decide) ?_
    refine lv_icmp_le (tgt := 14) hx hb dX7_tick_8 (by decide) (fun c_4 => ?_) (fun c_4 => ?_)
    · have hf5 := m_it c_4 hf3
      clear hf3
      refine lv_aload_n hx hb dX7_tick_14 rfl (lv_at hl 0 rfl) ?_
      refine m_get C hP mC_126 rfl inX7 2 (by decide) wf_X7_22 rfl dX7_tick_15 ?_
      refine lv_aload_n hx hb dX7_tick_18 rfl (lv_at hl 0 rfl) ?_
      refine m_get C hP mC_126 rfl inX7 0 (by decide) wf_X7_10 rfl dX7_tick_19 ?_
      obtain ⟨X_7, h_7, hf8⟩ := m_bv_s hf5
      clear hf5
      refine m_callVv (q := (RX2, TX2, 3)) C [.ref (a 0)] [] (c_X2_push l D a cy hG N _ h_7) (m_goodV wl_X7_37 wi_X2_push ws_X2_push wn_X2 wc_X2_push) ⟨rfl, rfl⟩ hv_X2_push ⟨Nat.le_of_ble_eq_true rfl, Nat.le_of_ble_eq_true rfl⟩ rfl mC_127 hP hS rfl hl.1 rfl (Nat.le_of_ble_eq_true rfl) dX7_tick_22 (fun H locs hP hS => ?_)
      refine lv_aload_n hx hb dX7_tick_25 rfl (lv_at hl 0 rfl) ?_
      refine m_get C hP mC_126 rfl inX7 0 (by decide) wf_X7_10 rfl dX7_tick_26 ?_
      refine lv_iload_n hx hb dX7_tick_29 rfl (lv_at hl 1 rfl) ?_
      obtain ⟨r_9, X_9, h_9, hf10⟩ := m_bi_s hf8
      clear hf8
      refine m_callVi (q := (RX3, TX3, 12)) C [.int v1] [] (c_X3_passTicks l D a cy hG N _ _ h_9) (m_goodV wl_X7_63 wi_X3_passTicks ws_X3_passTicks wn_X3 wc_X3_passTicks) ⟨rfl, rfl⟩ hv_X3_passTicks ⟨Nat.le_of_ble_eq_true rfl, Nat.le_of_ble_eq_true rfl⟩ rfl mC_0 hP hS rfl hl.1 rfl (Nat.le_of_ble_eq_true rfl) dX7_tick_30 (fun H locs hP hS => ?_)
      exact m_iret C hP hS dX7_tick_33 hf10
    · have hf6 := m_ie c_4 hf3
      clear hf3
      refine lv_bipush (v := (-2)) hx hb dX7_tick_11 (by decide) ?_
      exact m_iret C hP hS dX7_tick_13 hf6
abbrev rm_X7_set : Room := { frames := 4, cells := 0, slots := 0, locals := 104 }
def f_X7_set (N : Nat) (v1 : Int32) (v2 : Int32) (X : XT) : Option (Int32 × XT) := m_bi (f_X6_refusal N v1 v2 X) fun r_1 X_1 => if r_1 = 0 then (m_bv (f_X2_push N X_1) fun X_6 => m_bi (f_X3_change N v1 v2 X_6) fun r_8 X_8 => some (r_8, X_8)) else (some (r_1, X_1))
set_option maxHeartbeats 4000000 in
set_option maxRecDepth 100000 in
theorem c_X7_set (l : Launch) (D : va_G) (a : Nat → Nat) (cy : Nat → ClassId) (hG : m_inj 138 a) (N : Nat) (v1 : Int32) (v2 : Int32) (X : XT) {r0 : Int32} {X0 : XT} (hf0 : f_X7_set N v1 v2 X = some (r0, X0)) : Met l yX7_set (Cond.code yX7_set cX7_set 4 (some .int) :: m_tbl) rm_X7_set (va_Pc [.ref (a 126), .int v1, .int v2] (m_PX D (m_tc cy) (m_WC a cy) (m_ZC a) X)) (m_QI D (m_WC a cy) (m_AC a) r0 X0) 0 0 (m_AC a) := by
  refine m_met (own := RX7) hy_X7_set rfl (Nat.le_of_ble_eq_true rfl) (m_wl_D hG _) m_ZC_keep ?_
  intro p e s m args below meth c C ls hl hP hS
  have hx := C.1.1
  have hb := C.1.2.1
  have hl : lv_has ls 4 [(0, .ref (a 126)), (1, .int v1), (2, .int v2)] := hl
  unfold f_X7_set at hf0
  suffices K : ∀ (H : Heap) (locs : List Loc), va_P D vwCl (m_WC a cy X) H → va_S (m_AC a) s.heap H locs → W p l e rm_X7_set s m args below meth c H locs 0 0 (MQ below (m_QI D (m_WC a cy) (m_AC a) r0 X0) args s 0 0 (m_AC a)) (F0 m 0 ls []) from K _ _ hP hS
  clear hP hS
  intro H locs hP hS
  refine lv_iload_n hx hb dX7_set_0 rfl (lv_at hl 1 rfl) ?_
  refine lv_iload_n hx hb dX7_set_1 rfl (lv_at hl 2 rfl) ?_
  obtain ⟨r_1, X_1, h_1, hf2⟩ := m_bi_s hf0
  clear hf0
  refine m_callSi C [.int v1, .int v2] [] (c_X6_refusal l D a cy hG N _ _ _ h_1) (m_goodS wl_X7_66 wst_X6_refusal wn_X6 wc_X6_refusal) ⟨rfl, rfl⟩ hv_X6_refusal ⟨Nat.le_of_ble_eq_true rfl, Nat.le_of_ble_eq_true rfl⟩ hP hS rfl hl.1 rfl (Nat.le_of_ble_eq_true rfl) dX7_set_2 (fun H locs hP hS => ?_)
  refine lv_istore_n (lv' := [(3, .int r_1), (0, .ref (a 126)), (1, .int v1), (2, .int v2)]) hx hb dX7_set_5 rfl hl (by decide) rfl (fun ls hl => ?_)
  refine lv_iload_n hx hb dX7_set_6 rfl (lv_at hl 0 rfl) ?_
  refine lv_if_eq (tgt := 12) hx hb dX7_set_7 (by decide) (fun c_3 => ?_) (fun c_3 => ?_)
  · have hf4 := m_it c_3 hf2
    clear hf2
    refine lv_aload_n hx hb dX7_set_12 rfl (lv_at hl 1 rfl) ?_
    refine m_get C hP mC_126 rfl inX7 2 (by decide) wf_X7_22 rfl dX7_set_13 ?_
    refine lv_aload_n hx hb dX7_set_16 rfl (lv_at hl 1 rfl) ?_
    refine m_get C hP mC_126 rfl inX7 0 (by decide) wf_X7_10 rfl dX7_set_17 ?_
    obtain ⟨X_6, h_6, hf7⟩ := m_bv_s hf4
    clear hf4
    refine m_callVv (q := (RX2, TX2, 3)) C [.ref (a 0)] [] (c_X2_push l D a cy hG N _ h_6) (m_goodV wl_X7_37 wi_X2_push ws_X2_push wn_X2 wc_X2_push) ⟨rfl, rfl⟩ hv_X2_push ⟨Nat.le_of_ble_eq_true rfl, Nat.le_of_ble_eq_true rfl⟩ rfl mC_127 hP hS rfl hl.1 rfl (Nat.le_of_ble_eq_true rfl) dX7_set_20 (fun H locs hP hS => ?_)
    refine lv_aload_n hx hb dX7_set_23 rfl (lv_at hl 1 rfl) ?_
    refine m_get C hP mC_126 rfl inX7 0 (by decide) wf_X7_10 rfl dX7_set_24 ?_
    refine lv_iload_n hx hb dX7_set_27 rfl (lv_at hl 2 rfl) ?_
    refine lv_iload_n hx hb dX7_set_28 rfl (lv_at hl 3 rfl) ?_
    obtain ⟨r_8, X_8, h_8, hf9⟩ := m_bi_s hf7
    clear hf7
    refine m_callVi (q := (RX3, TX3, 12)) C [.int v1, .int v2] [] (c_X3_change l D a cy hG N _ _ _ h_8) (m_goodV wl_X7_71 wi_X3_change ws_X3_change wn_X3 wc_X3_change) ⟨rfl, rfl⟩ hv_X3_change ⟨Nat.le_of_ble_eq_true rfl, Nat.le_of_ble_eq_true rfl⟩ rfl mC_0 hP hS rfl hl.1 rfl (Nat.le_of_ble_eq_true rfl) dX7_set_29 (fun H locs hP hS => ?_)
    exact m_iret C hP hS dX7_set_32 hf9
  · have hf5 := m_ie c_3 hf2
    clear hf2
    refine lv_iload_n hx hb dX7_set_10 rfl (lv_at hl 0 rfl) ?_
    exact m_iret C hP hS dX7_set_11 hf5
abbrev rm_X7_undo : Room := { frames := 4, cells := 0, slots := 0, locals := 104 }
def f_X7_undo (N : Nat) (X : XT) : Option (Int32 × XT) := m_bi (f_X2_popInto N X) fun r_1 X_1 => some (r_1, X_1)
set_option maxHeartbeats 4000000 in
set_option maxRecDepth 100000 in
theorem c_X7_undo (l : Launch) (D : va_G) (a : Nat → Nat) (cy : Nat → ClassId) (hG : m_inj 138 a) (N : Nat) (X : XT) {r0 : Int32} {X0 : XT} (hf0 : f_X7_undo N X = some (r0, X0)) : Met l yX7_undo (Cond.code yX7_undo cX7_undo 1 (some .int) :: m_tbl) rm_X7_undo (va_Pc [.ref (a 126)] (m_PX D (m_tc cy) (m_WC a cy) (m_ZC a) X)) (m_QI D (m_WC a cy) (m_AC a) r0 X0) 0 0 (m_AC a) := by
  refine m_met (own := RX7) hy_X7_undo rfl (Nat.le_of_ble_eq_true rfl) (m_wl_D hG _) m_ZC_keep ?_
  intro p e s m args below meth c C ls hl hP hS
  have hx := C.1.1
  have hb := C.1.2.1
  have hl : lv_has ls 1 [(0, .ref (a 126))] := hl
  unfold f_X7_undo at hf0
  suffices K : ∀ (H : Heap) (locs : List Loc), va_P D vwCl (m_WC a cy X) H → va_S (m_AC a) s.heap H locs → W p l e rm_X7_undo s m args below meth c H locs 0 0 (MQ below (m_QI D (m_WC a cy) (m_AC a) r0 X0) args s 0 0 (m_AC a)) (F0 m 0 ls []) from K _ _ hP hS
  clear hP hS
  intro H locs hP hS
  refine lv_aload_n hx hb dX7_undo_0 rfl (lv_at hl 0 rfl) ?_
  refine m_get C hP mC_126 rfl inX7 2 (by decide) wf_X7_22 rfl dX7_undo_1 ?_
  refine lv_aload_n hx hb dX7_undo_4 rfl (lv_at hl 0 rfl) ?_
  refine m_get C hP mC_126 rfl inX7 0 (by decide) wf_X7_10 rfl dX7_undo_5 ?_
  obtain ⟨r_1, X_1, h_1, hf2⟩ := m_bi_s hf0
  clear hf0
  refine m_callVi (q := (RX2, TX2, 3)) C [.ref (a 0)] [] (c_X2_popInto l D a cy hG N _ h_1) (m_goodV wl_X7_108 wi_X2_popInto ws_X2_popInto wn_X2 wc_X2_popInto) ⟨rfl, rfl⟩ hv_X2_popInto ⟨Nat.le_of_ble_eq_true rfl, Nat.le_of_ble_eq_true rfl⟩ rfl mC_127 hP hS rfl hl.1 rfl (Nat.le_of_ble_eq_true rfl) dX7_undo_8 (fun H locs hP hS => ?_)
  exact m_iret C hP hS dX7_undo_11 hf2
abbrev rm_X7_commit : Room := { frames := 3, cells := 0, slots := 0, locals := 64 }
def f_X7_commit (N : Nat) (v1 : Int32) (v2 : Int32) (X : XT) : Option (Int32 × XT) := m_bi (f_X3_aboutCommit N v1 v2 X) fun r_1 X_1 => some (r_1, X_1)
set_option maxHeartbeats 4000000 in
set_option maxRecDepth 100000 in
theorem c_X7_commit (l : Launch) (D : va_G) (a : Nat → Nat) (cy : Nat → ClassId) (hG : m_inj 138 a) (N : Nat) (v1 : Int32) (v2 : Int32) (X : XT) {r0 : Int32} {X0 : XT} (hf0 : f_X7_commit N v1 v2 X = some (r0, X0)) : Met l yX7_commit (Cond.code yX7_commit cX7_commit 3 (some .int) :: m_tbl) rm_X7_commit (va_Pc [.ref (a 126), .int v1, .int v2] (m_PX D (m_tc cy) (m_WC a cy) (m_ZC a) X)) (m_QI D (m_WC a cy) (m_AC a) r0 X0) 0 0 (m_AC a) := by
  refine m_met (own := RX7) hy_X7_commit rfl (Nat.le_of_ble_eq_true rfl) (m_wl_D hG _) m_ZC_keep ?_
  intro p e s m args below meth c C ls hl hP hS
  have hx := C.1.1
  have hb := C.1.2.1
  have hl : lv_has ls 3 [(0, .ref (a 126)), (1, .int v1), (2, .int v2)] := hl
  unfold f_X7_commit at hf0
  suffices K : ∀ (H : Heap) (locs : List Loc), va_P D vwCl (m_WC a cy X) H → va_S (m_AC a) s.heap H locs → W p l e rm_X7_commit s m args below meth c H locs 0 0 (MQ below (m_QI D (m_WC a cy) (m_AC a) r0 X0) args s 0 0 (m_AC a)) (F0 m 0 ls []) from K _ _ hP hS
  clear hP hS
  intro H locs hP hS
  refine lv_aload_n hx hb dX7_commit_0 rfl (lv_at hl 0 rfl) ?_
  refine m_get C hP mC_126 rfl inX7 0 (by decide) wf_X7_10 rfl dX7_commit_1 ?_
  refine lv_iload_n hx hb dX7_commit_4 rfl (lv_at hl 1 rfl) ?_
  refine lv_iload_n hx hb dX7_commit_5 rfl (lv_at hl 2 rfl) ?_
  obtain ⟨r_1, X_1, h_1, hf2⟩ := m_bi_s hf0
  clear hf0
  refine m_callVi (q := (RX3, TX3, 12)) C [.int v1, .int v2] [] (c_X3_aboutCommit l D a cy hG N _ _ _ h_1) (m_goodV wl_X7_122 wi_X3_aboutCommit ws_X3_aboutCommit wn_X3 wc_X3_aboutCommit) ⟨rfl, rfl⟩ hv_X3_aboutCommit ⟨Nat.le_of_ble_eq_true rfl, Nat.le_of_ble_eq_true rfl⟩ rfl mC_0 hP hS rfl hl.1 rfl (Nat.le_of_ble_eq_true rfl) dX7_commit_6 (fun H locs hP hS => ?_)
  exact m_iret C hP hS dX7_commit_9 hf2
abbrev rm_X7_group : Room := { frames := 3, cells := 0, slots := 0, locals := 64 }
def f_X7_group (N : Nat) (v1 : Int32) (v2 : Int32) (X : XT) : Option (Int32 × XT) := m_bi (f_X3_aboutGroup N v1 v2 X) fun r_1 X_1 => some (r_1, X_1)
set_option maxHeartbeats 4000000 in
set_option maxRecDepth 100000 in
theorem c_X7_group (l : Launch) (D : va_G) (a : Nat → Nat) (cy : Nat → ClassId) (hG : m_inj 138 a) (N : Nat) (v1 : Int32) (v2 : Int32) (X : XT) {r0 : Int32} {X0 : XT} (hf0 : f_X7_group N v1 v2 X = some (r0, X0)) : Met l yX7_group (Cond.code yX7_group cX7_group 3 (some .int) :: m_tbl) rm_X7_group (va_Pc [.ref (a 126), .int v1, .int v2] (m_PX D (m_tc cy) (m_WC a cy) (m_ZC a) X)) (m_QI D (m_WC a cy) (m_AC a) r0 X0) 0 0 (m_AC a) := by
  refine m_met (own := RX7) hy_X7_group rfl (Nat.le_of_ble_eq_true rfl) (m_wl_D hG _) m_ZC_keep ?_
  intro p e s m args below meth c C ls hl hP hS
  have hx := C.1.1
  have hb := C.1.2.1
  have hl : lv_has ls 3 [(0, .ref (a 126)), (1, .int v1), (2, .int v2)] := hl
  unfold f_X7_group at hf0
  suffices K : ∀ (H : Heap) (locs : List Loc), va_P D vwCl (m_WC a cy X) H → va_S (m_AC a) s.heap H locs → W p l e rm_X7_group s m args below meth c H locs 0 0 (MQ below (m_QI D (m_WC a cy) (m_AC a) r0 X0) args s 0 0 (m_AC a)) (F0 m 0 ls []) from K _ _ hP hS
  clear hP hS
  intro H locs hP hS
  refine lv_aload_n hx hb dX7_group_0 rfl (lv_at hl 0 rfl) ?_
  refine m_get C hP mC_126 rfl inX7 0 (by decide) wf_X7_10 rfl dX7_group_1 ?_
  refine lv_iload_n hx hb dX7_group_4 rfl (lv_at hl 1 rfl) ?_
  refine lv_iload_n hx hb dX7_group_5 rfl (lv_at hl 2 rfl) ?_
  obtain ⟨r_1, X_1, h_1, hf2⟩ := m_bi_s hf0
  clear hf0
  refine m_callVi (q := (RX3, TX3, 12)) C [.int v1, .int v2] [] (c_X3_aboutGroup l D a cy hG N _ _ _ h_1) (m_goodV wl_X7_125 wi_X3_aboutGroup ws_X3_aboutGroup wn_X3 wc_X3_aboutGroup) ⟨rfl, rfl⟩ hv_X3_aboutGroup ⟨Nat.le_of_ble_eq_true rfl, Nat.le_of_ble_eq_true rfl⟩ rfl mC_0 hP hS rfl hl.1 rfl (Nat.le_of_ble_eq_true rfl) dX7_group_6 (fun H locs hP hS => ?_)
  exact m_iret C hP hS dX7_group_9 hf2
abbrev rm_X7_member : Room := { frames := 2, cells := 0, slots := 0, locals := 46 }
def f_X7_member (N : Nat) (v1 : Int32) (v2 : Int32) (X : XT) : Option (Int32 × XT) := m_bi (f_X3_memberAt N v1 v2 X) fun r_1 X_1 => some (r_1, X_1)
set_option maxHeartbeats 4000000 in
set_option maxRecDepth 100000 in
theorem c_X7_member (l : Launch) (D : va_G) (a : Nat → Nat) (cy : Nat → ClassId) (hG : m_inj 138 a) (N : Nat) (v1 : Int32) (v2 : Int32) (X : XT) {r0 : Int32} {X0 : XT} (hf0 : f_X7_member N v1 v2 X = some (r0, X0)) : Met l yX7_member (Cond.code yX7_member cX7_member 3 (some .int) :: m_tbl) rm_X7_member (va_Pc [.ref (a 126), .int v1, .int v2] (m_PX D (m_tc cy) (m_WC a cy) (m_ZC a) X)) (m_QI D (m_WC a cy) (m_AC a) r0 X0) 0 0 (m_AC a) := by
  refine m_met (own := RX7) hy_X7_member rfl (Nat.le_of_ble_eq_true rfl) (m_wl_D hG _) m_ZC_keep ?_
  intro p e s m args below meth c C ls hl hP hS
  have hx := C.1.1
  have hb := C.1.2.1
  have hl : lv_has ls 3 [(0, .ref (a 126)), (1, .int v1), (2, .int v2)] := hl
  unfold f_X7_member at hf0
  suffices K : ∀ (H : Heap) (locs : List Loc), va_P D vwCl (m_WC a cy X) H → va_S (m_AC a) s.heap H locs → W p l e rm_X7_member s m args below meth c H locs 0 0 (MQ below (m_QI D (m_WC a cy) (m_AC a) r0 X0) args s 0 0 (m_AC a)) (F0 m 0 ls []) from K _ _ hP hS
  clear hP hS
  intro H locs hP hS
  refine lv_aload_n hx hb dX7_member_0 rfl (lv_at hl 0 rfl) ?_
  refine m_get C hP mC_126 rfl inX7 0 (by decide) wf_X7_10 rfl dX7_member_1 ?_
  refine lv_iload_n hx hb dX7_member_4 rfl (lv_at hl 1 rfl) ?_
  refine lv_iload_n hx hb dX7_member_5 rfl (lv_at hl 2 rfl) ?_
  obtain ⟨r_1, X_1, h_1, hf2⟩ := m_bi_s hf0
  clear hf0
  refine m_callVi (q := (RX3, TX3, 12)) C [.int v1, .int v2] [] (c_X3_memberAt l D a cy hG N _ _ _ h_1) (m_goodV wl_X7_128 wi_X3_memberAt ws_X3_memberAt wn_X3 wc_X3_memberAt) ⟨rfl, rfl⟩ hv_X3_memberAt ⟨Nat.le_of_ble_eq_true rfl, Nat.le_of_ble_eq_true rfl⟩ rfl mC_0 hP hS rfl hl.1 rfl (Nat.le_of_ble_eq_true rfl) dX7_member_6 (fun H locs hP hS => ?_)
  exact m_iret C hP hS dX7_member_9 hf2
abbrev rm_X7_open : Room := { frames := 2, cells := 0, slots := 0, locals := 41 }
def f_X7_open (N : Nat) (v1 : Int32) (X : XT) : Option (Int32 × XT) := m_bi (f_X3_isClient N v1 X) fun r_1 X_1 => if r_1 = 0 then (some ((-1), X_1)) else (m_bi (f_X3_openCommitOf N v1 X_1) fun r_6 X_6 => some (r_6, X_6))
set_option maxHeartbeats 4000000 in
set_option maxRecDepth 100000 in
theorem c_X7_open (l : Launch) (D : va_G) (a : Nat → Nat) (cy : Nat → ClassId) (hG : m_inj 138 a) (N : Nat) (v1 : Int32) (X : XT) {r0 : Int32} {X0 : XT} (hf0 : f_X7_open N v1 X = some (r0, X0)) : Met l yX7_open (Cond.code yX7_open cX7_open 2 (some .int) :: m_tbl) rm_X7_open (va_Pc [.ref (a 126), .int v1] (m_PX D (m_tc cy) (m_WC a cy) (m_ZC a) X)) (m_QI D (m_WC a cy) (m_AC a) r0 X0) 0 0 (m_AC a) := by
  refine m_met (own := RX7) hy_X7_open rfl (Nat.le_of_ble_eq_true rfl) (m_wl_D hG _) m_ZC_keep ?_
  intro p e s m args below meth c C ls hl hP hS
  have hx := C.1.1
  have hb := C.1.2.1
  have hl : lv_has ls 2 [(0, .ref (a 126)), (1, .int v1)] := hl
  unfold f_X7_open at hf0
  suffices K : ∀ (H : Heap) (locs : List Loc), va_P D vwCl (m_WC a cy X) H → va_S (m_AC a) s.heap H locs → W p l e rm_X7_open s m args below meth c H locs 0 0 (MQ below (m_QI D (m_WC a cy) (m_AC a) r0 X0) args s 0 0 (m_AC a)) (F0 m 0 ls []) from K _ _ hP hS
  clear hP hS
  intro H locs hP hS
  refine lv_iload_n hx hb dX7_open_0 rfl (lv_at hl 1 rfl) ?_
  obtain ⟨r_1, X_1, h_1, hf2⟩ := m_bi_s hf0
  clear hf0
  refine m_callSi C [.int v1] [] (c_X3_isClient l D a cy hG N _ _ h_1) (m_goodS wl_X7_45 wst_X3_isClient wn_X3 wc_X3_isClient) ⟨rfl, rfl⟩ hv_X3_isClient ⟨Nat.le_of_ble_eq_true rfl, Nat.le_of_ble_eq_true rfl⟩ hP hS rfl hl.1 rfl (Nat.le_of_ble_eq_true rfl) dX7_open_1 (fun H locs hP hS => ?_)
  refine lv_if_ne (tgt := 9) hx hb dX7_open_4 (by decide) (fun c_3 => ?_) (fun c_3 => ?_)
  · have hf4 := m_ie c_3 hf2
    clear hf2
    refine lv_aload_n hx hb dX7_open_9 rfl (lv_at hl 0 rfl) ?_
    refine m_get C hP mC_126 rfl inX7 0 (by decide) wf_X7_10 rfl dX7_open_10 ?_
    refine lv_iload_n hx hb dX7_open_13 rfl (lv_at hl 1 rfl) ?_
    obtain ⟨r_6, X_6, h_6, hf7⟩ := m_bi_s hf4
    clear hf4
    refine m_callVi (q := (RX3, TX3, 12)) C [.int v1] [] (c_X3_openCommitOf l D a cy hG N _ _ h_6) (m_goodV wl_X7_131 wi_X3_openCommitOf ws_X3_openCommitOf wn_X3 wc_X3_openCommitOf) ⟨rfl, rfl⟩ hv_X3_openCommitOf ⟨Nat.le_of_ble_eq_true rfl, Nat.le_of_ble_eq_true rfl⟩ rfl mC_0 hP hS rfl hl.1 rfl (Nat.le_of_ble_eq_true rfl) dX7_open_14 (fun H locs hP hS => ?_)
    exact m_iret C hP hS dX7_open_17 hf7
  · have hf5 := m_it c_3 hf2
    clear hf2
    refine lv_iconst (v := (-1)) hx hb dX7_open_7 (by decide) ?_
    exact m_iret C hP hS dX7_open_8 hf5
abbrev rm_X7_queued : Room := { frames := 3, cells := 0, slots := 0, locals := 62 }
def f_X7_queued (N : Nat) (v1 : Int32) (X : XT) : Option (Int32 × XT) := if 0 ≤ v1 then (m_bi (f_X3_queuedAt N v1 X) fun r_4 X_4 => some (r_4, X_4)) else (some ((-2), X))
set_option maxHeartbeats 4000000 in
set_option maxRecDepth 100000 in
theorem c_X7_queued (l : Launch) (D : va_G) (a : Nat → Nat) (cy : Nat → ClassId) (hG : m_inj 138 a) (N : Nat) (v1 : Int32) (X : XT) {r0 : Int32} {X0 : XT} (hf0 : f_X7_queued N v1 X = some (r0, X0)) : Met l yX7_queued (Cond.code yX7_queued cX7_queued 2 (some .int) :: m_tbl) rm_X7_queued (va_Pc [.ref (a 126), .int v1] (m_PX D (m_tc cy) (m_WC a cy) (m_ZC a) X)) (m_QI D (m_WC a cy) (m_AC a) r0 X0) 0 0 (m_AC a) := by
  refine m_met (own := RX7) hy_X7_queued rfl (Nat.le_of_ble_eq_true rfl) (m_wl_D hG _) m_ZC_keep ?_
  intro p e s m args below meth c C ls hl hP hS
  have hx := C.1.1
  have hb := C.1.2.1
  have hl : lv_has ls 2 [(0, .ref (a 126)), (1, .int v1)] := hl
  unfold f_X7_queued at hf0
  suffices K : ∀ (H : Heap) (locs : List Loc), va_P D vwCl (m_WC a cy X) H → va_S (m_AC a) s.heap H locs → W p l e rm_X7_queued s m args below meth c H locs 0 0 (MQ below (m_QI D (m_WC a cy) (m_AC a) r0 X0) args s 0 0 (m_AC a)) (F0 m 0 ls []) from K _ _ hP hS
  clear hP hS
  intro H locs hP hS
  refine lv_iload_n hx hb dX7_queued_0 rfl (lv_at hl 1 rfl) ?_
  refine lv_if_ge (tgt := 7) hx hb dX7_queued_1 (by decide) (fun c_1 => ?_) (fun c_1 => ?_)
  · have hf2 := m_it c_1 hf0
    clear hf0
    refine lv_aload_n hx hb dX7_queued_7 rfl (lv_at hl 0 rfl) ?_
    refine m_get C hP mC_126 rfl inX7 0 (by decide) wf_X7_10 rfl dX7_queued_8 ?_
    refine lv_iload_n hx hb dX7_queued_11 rfl (lv_at hl 1 rfl) ?_
    obtain ⟨r_4, X_4, h_4, hf5⟩ := m_bi_s hf2
    clear hf2
    refine m_callVi (q := (RX3, TX3, 12)) C [.int v1] [] (c_X3_queuedAt l D a cy hG N _ _ h_4) (m_goodV wl_X7_134 wi_X3_queuedAt ws_X3_queuedAt wn_X3 wc_X3_queuedAt) ⟨rfl, rfl⟩ hv_X3_queuedAt ⟨Nat.le_of_ble_eq_true rfl, Nat.le_of_ble_eq_true rfl⟩ rfl mC_0 hP hS rfl hl.1 rfl (Nat.le_of_ble_eq_true rfl) dX7_queued_12 (fun H locs hP hS => ?_)
    exact m_iret C hP hS dX7_queued_15 hf5
  · have hf3 := m_ie c_1 hf0
    clear hf0
    refine lv_bipush (v := (-2)) hx hb dX7_queued_4 (by decide) ?_
    exact m_iret C hP hS dX7_queued_6 hf3
abbrev rm_X7_count : Room := { frames := 2, cells := 0, slots := 0, locals := 43 }
def f_X7_count (N : Nat) (v1 : Int32) (X : XT) : Option (Int32 × XT) := if v1 = 10 then (m_bi (f_X2_size N X) fun r_11 X_11 => some (r_11, X_11)) else (if v1 = 11 then (m_bi (f_X5_length N X) fun r_9 X_9 => some (r_9, X_9)) else (m_bi (f_X3_aboutNow N v1 X) fun r_7 X_7 => some (r_7, X_7)))
set_option maxHeartbeats 4000000 in
set_option maxRecDepth 100000 in
theorem c_X7_count (l : Launch) (D : va_G) (a : Nat → Nat) (cy : Nat → ClassId) (hG : m_inj 138 a) (N : Nat) (v1 : Int32) (X : XT) {r0 : Int32} {X0 : XT} (hf0 : f_X7_count N v1 X = some (r0, X0)) : Met l yX7_count (Cond.code yX7_count cX7_count 2 (some .int) :: m_tbl) rm_X7_count (va_Pc [.ref (a 126), .int v1] (m_PX D (m_tc cy) (m_WC a cy) (m_ZC a) X)) (m_QI D (m_WC a cy) (m_AC a) r0 X0) 0 0 (m_AC a) := by
  refine m_met (own := RX7) hy_X7_count rfl (Nat.le_of_ble_eq_true rfl) (m_wl_D hG _) m_ZC_keep ?_
  intro p e s m args below meth c C ls hl hP hS
  have hx := C.1.1
  have hb := C.1.2.1
  have hl : lv_has ls 2 [(0, .ref (a 126)), (1, .int v1)] := hl
  unfold f_X7_count at hf0
  suffices K : ∀ (H : Heap) (locs : List Loc), va_P D vwCl (m_WC a cy X) H → va_S (m_AC a) s.heap H locs → W p l e rm_X7_count s m args below meth c H locs 0 0 (MQ below (m_QI D (m_WC a cy) (m_AC a) r0 X0) args s 0 0 (m_AC a)) (F0 m 0 ls []) from K _ _ hP hS
  clear hP hS
  intro H locs hP hS
  refine lv_iload_n hx hb dX7_count_0 rfl (lv_at hl 1 rfl) ?_
  refine lv_bipush (v := 10) hx hb dX7_count_1 (by decide) ?_
  refine lv_icmp_ne (tgt := 14) hx hb dX7_count_3 (by decide) (fun c_1 => ?_) (fun c_1 => ?_)
  · have hf2 := m_ie c_1 hf0
    clear hf0
    refine lv_iload_n hx hb dX7_count_14 rfl (lv_at hl 1 rfl) ?_
    refine lv_bipush (v := 11) hx hb dX7_count_15 (by decide) ?_
    refine lv_icmp_ne (tgt := 28) hx hb dX7_count_17 (by decide) (fun c_4 => ?_) (fun c_4 => ?_)
    · have hf5 := m_ie c_4 hf2
      clear hf2
      refine lv_aload_n hx hb dX7_count_28 rfl (lv_at hl 0 rfl) ?_
      refine m_get C hP mC_126 rfl inX7 0 (by decide) wf_X7_10 rfl dX7_count_29 ?_
      refine lv_iload_n hx hb dX7_count_32 rfl (lv_at hl 1 rfl) ?_
      obtain ⟨r_7, X_7, h_7, hf8⟩ := m_bi_s hf5
      clear hf5
      refine m_callVi (q := (RX3, TX3, 12)) C [.int v1] [] (c_X3_aboutNow l D a cy hG N _ _ h_7) (m_goodV wl_X7_143 wi_X3_aboutNow ws_X3_aboutNow wn_X3 wc_X3_aboutNow) ⟨rfl, rfl⟩ hv_X3_aboutNow ⟨Nat.le_of_ble_eq_true rfl, Nat.le_of_ble_eq_true rfl⟩ rfl mC_0 hP hS rfl hl.1 rfl (Nat.le_of_ble_eq_true rfl) dX7_count_33 (fun H locs hP hS => ?_)
      exact m_iret C hP hS dX7_count_36 hf8
    · have hf6 := m_it c_4 hf2
      clear hf2
      refine lv_aload_n hx hb dX7_count_20 rfl (lv_at hl 0 rfl) ?_
      refine m_get C hP mC_126 rfl inX7 3 (by decide) wf_X7_29 rfl dX7_count_21 ?_
      obtain ⟨r_9, X_9, h_9, hf10⟩ := m_bi_s hf6
      clear hf6
      refine m_callVi (q := (RX5, TX5, 7)) C [] [] (c_X5_length l D a cy hG N _ h_9) (m_goodV wl_X7_140 wi_X5_length ws_X5_length wn_X5 wc_X5_length) ⟨rfl, rfl⟩ hv_X5_length ⟨Nat.le_of_ble_eq_true rfl, Nat.le_of_ble_eq_true rfl⟩ rfl mC_129 hP hS rfl hl.1 rfl (Nat.le_of_ble_eq_true rfl) dX7_count_24 (fun H locs hP hS => ?_)
      exact m_iret C hP hS dX7_count_27 hf10
  · have hf3 := m_it c_1 hf0
    clear hf0
    refine lv_aload_n hx hb dX7_count_6 rfl (lv_at hl 0 rfl) ?_
    refine m_get C hP mC_126 rfl inX7 2 (by decide) wf_X7_22 rfl dX7_count_7 ?_
    obtain ⟨r_11, X_11, h_11, hf12⟩ := m_bi_s hf3
    clear hf3
    refine m_callVi (q := (RX2, TX2, 3)) C [] [] (c_X2_size l D a cy hG N _ h_11) (m_goodV wl_X7_137 wi_X2_size ws_X2_size wn_X2 wc_X2_size) ⟨rfl, rfl⟩ hv_X2_size ⟨Nat.le_of_ble_eq_true rfl, Nat.le_of_ble_eq_true rfl⟩ rfl mC_127 hP hS rfl hl.1 rfl (Nat.le_of_ble_eq_true rfl) dX7_count_10 (fun H locs hP hS => ?_)
    exact m_iret C hP hS dX7_count_13 hf12
abbrev rm_X7_total : Room := { frames := 1, cells := 0, slots := 0, locals := 21 }
def f_X7_total (N : Nat) (v1 : Int32) (X : XT) : Option (Int32 × XT) := m_bi (f_X3_totalOf N v1 X) fun r_1 X_1 => some (r_1, X_1)
set_option maxHeartbeats 4000000 in
set_option maxRecDepth 100000 in
theorem c_X7_total (l : Launch) (D : va_G) (a : Nat → Nat) (cy : Nat → ClassId) (hG : m_inj 138 a) (N : Nat) (v1 : Int32) (X : XT) {r0 : Int32} {X0 : XT} (hf0 : f_X7_total N v1 X = some (r0, X0)) : Met l yX7_total (Cond.code yX7_total cX7_total 2 (some .int) :: m_tbl) rm_X7_total (va_Pc [.ref (a 126), .int v1] (m_PX D (m_tc cy) (m_WC a cy) (m_ZC a) X)) (m_QI D (m_WC a cy) (m_AC a) r0 X0) 0 0 (m_AC a) := by
  refine m_met (own := RX7) hy_X7_total rfl (Nat.le_of_ble_eq_true rfl) (m_wl_D hG _) m_ZC_keep ?_
  intro p e s m args below meth c C ls hl hP hS
  have hx := C.1.1
  have hb := C.1.2.1
  have hl : lv_has ls 2 [(0, .ref (a 126)), (1, .int v1)] := hl
  unfold f_X7_total at hf0
  suffices K : ∀ (H : Heap) (locs : List Loc), va_P D vwCl (m_WC a cy X) H → va_S (m_AC a) s.heap H locs → W p l e rm_X7_total s m args below meth c H locs 0 0 (MQ below (m_QI D (m_WC a cy) (m_AC a) r0 X0) args s 0 0 (m_AC a)) (F0 m 0 ls []) from K _ _ hP hS
  clear hP hS
  intro H locs hP hS
  refine lv_aload_n hx hb dX7_total_0 rfl (lv_at hl 0 rfl) ?_
  refine m_get C hP mC_126 rfl inX7 0 (by decide) wf_X7_10 rfl dX7_total_1 ?_
  refine lv_iload_n hx hb dX7_total_4 rfl (lv_at hl 1 rfl) ?_
  obtain ⟨r_1, X_1, h_1, hf2⟩ := m_bi_s hf0
  clear hf0
  refine m_callVi (q := (RX3, TX3, 12)) C [.int v1] [] (c_X3_totalOf l D a cy hG N _ _ h_1) (m_goodV wl_X7_146 wi_X3_totalOf ws_X3_totalOf wn_X3 wc_X3_totalOf) ⟨rfl, rfl⟩ hv_X3_totalOf ⟨Nat.le_of_ble_eq_true rfl, Nat.le_of_ble_eq_true rfl⟩ rfl mC_0 hP hS rfl hl.1 rfl (Nat.le_of_ble_eq_true rfl) dX7_total_5 (fun H locs hP hS => ?_)
  exact m_iret C hP hS dX7_total_8 hf2
