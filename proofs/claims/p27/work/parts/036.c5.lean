-- written by wip/gen/gen.py
abbrev rm_X5_length : Room := { frames := 0, cells := 0, slots := 0, locals := 0 }
def f_X5_length (N : Nat) (X : XT) : Option (Int32 × XT) := some ((X 129 1), X)
set_option maxHeartbeats 4000000 in
set_option maxRecDepth 100000 in
theorem c_X5_length (l : Launch) (D : va_G) (a : Nat → Nat) (cy : Nat → ClassId) (hG : m_inj 138 a) (N : Nat) (X : XT) {r0 : Int32} {X0 : XT} (hf0 : f_X5_length N X = some (r0, X0)) : Met l yX5_length (Cond.code yX5_length cX5_length 1 (some .int) :: m_tbl) rm_X5_length (va_Pc [.ref (a 129)] (m_PX D (m_tc cy) (m_WC a cy) (m_ZC a) X)) (m_QI D (m_WC a cy) (m_AC a) r0 X0) 0 0 (m_AC a) := by
  refine m_met (own := RX5) hy_X5_length rfl (Nat.le_of_ble_eq_true rfl) (m_wl_D hG _) m_ZC_keep ?_
  intro p e s m args below meth c C ls hl hP hS
  have hx := C.1.1
  have hb := C.1.2.1
  have hl : lv_has ls 1 [(0, .ref (a 129))] := hl
  unfold f_X5_length at hf0
  suffices K : ∀ (H : Heap) (locs : List Loc), va_P D vwCl (m_WC a cy X) H → va_S (m_AC a) s.heap H locs → W p l e rm_X5_length s m args below meth c H locs 0 0 (MQ below (m_QI D (m_WC a cy) (m_AC a) r0 X0) args s 0 0 (m_AC a)) (F0 m 0 ls []) from K _ _ hP hS
  clear hP hS
  intro H locs hP hS
  refine lv_aload_n hx hb dX5_length_0 rfl (lv_at hl 0 rfl) ?_
  refine m_get C hP mC_129 rfl inX5 1 (by decide) wf_X5_15 rfl dX5_length_1 ?_
  exact m_iret C hP hS dX5_length_4 hf0
