-- the law: written by wip/gen/lgen.py
def m_st_submit (N : Nat) (Inv : Nat → XT → XT → Prop) : Prop := ∀ (i : Nat) (X Y : XT), i < 512 → Inv i X Y → ∀ (v1 : Int32) (v2 : Int32) (v3 : Int32), (v3 = 0 ∨ v3 = 1) → ∃ (r : Int32) (X1 Y1 : XT), f_X7_submit N v1 v2 v3 X = some (r, X1) ∧ f_X8_submit N v1 v2 v3 Y = some (r, Y1) ∧ Inv (i + 1) X1 Y1
def m_st_fail (N : Nat) (Inv : Nat → XT → XT → Prop) : Prop := ∀ (i : Nat) (X Y : XT), i < 512 → Inv i X Y → ∀ (v1 : Int32), ∃ (r : Int32) (X1 Y1 : XT), f_X7_fail N v1 X = some (r, X1) ∧ f_X8_fail N v1 Y = some (r, Y1) ∧ Inv (i + 1) X1 Y1
def m_st_withdraw (N : Nat) (Inv : Nat → XT → XT → Prop) : Prop := ∀ (i : Nat) (X Y : XT), i < 512 → Inv i X Y → ∀ (v1 : Int32), ∃ (r : Int32) (X1 Y1 : XT), f_X7_withdraw N v1 X = some (r, X1) ∧ f_X8_withdraw N v1 Y = some (r, Y1) ∧ Inv (i + 1) X1 Y1
def m_st_crash (N : Nat) (Inv : Nat → XT → XT → Prop) : Prop := ∀ (i : Nat) (X Y : XT), i < 512 → Inv i X Y → ∃ (r : Int32) (X1 Y1 : XT), f_X7_crash N  X = some (r, X1) ∧ f_X8_crash N  Y = some (r, Y1) ∧ Inv (i + 1) X1 Y1
def m_st_tick (N : Nat) (Inv : Nat → XT → XT → Prop) : Prop := ∀ (i : Nat) (X Y : XT), i < 512 → Inv i X Y → ∀ (v1 : Int32), ∃ (r : Int32) (X1 Y1 : XT), f_X7_tick N v1 X = some (r, X1) ∧ f_X8_tick N v1 Y = some (r, Y1) ∧ Inv (i + 1) X1 Y1
def m_st_set (N : Nat) (Inv : Nat → XT → XT → Prop) : Prop := ∀ (i : Nat) (X Y : XT), i < 512 → Inv i X Y → ∀ (v1 : Int32) (v2 : Int32), ∃ (r : Int32) (X1 Y1 : XT), f_X7_set N v1 v2 X = some (r, X1) ∧ f_X8_set N v1 v2 Y = some (r, Y1) ∧ Inv (i + 1) X1 Y1
def m_st_append (N : Nat) (Inv : Nat → XT → XT → Prop) : Prop := ∀ (i : Nat) (X Y : XT), i < 512 → Inv i X Y → ∀ (v1 : Int32), ∃ (r : Int32) (X1 Y1 : XT), f_X7_append N v1 X = some (r, X1) ∧ f_X8_append N v1 Y = some (r, Y1) ∧ Inv (i + 1) X1 Y1
def m_st_clearText (N : Nat) (Inv : Nat → XT → XT → Prop) : Prop := ∀ (i : Nat) (X Y : XT), i < 512 → Inv i X Y → ∃ (r : Int32) (X1 Y1 : XT), f_X7_clearText N  X = some (r, X1) ∧ f_X8_clearText N  Y = some (r, Y1) ∧ Inv (i + 1) X1 Y1
def m_st_fault (N : Nat) (Inv : Nat → XT → XT → Prop) : Prop := ∀ (i : Nat) (X Y : XT), i < 512 → Inv i X Y → ∃ (r : Int32) (X1 Y1 : XT), f_X7_fault N  X = some (r, X1) ∧ f_X8_fault N  Y = some (r, Y1) ∧ Inv (i + 1) X1 Y1
def m_st_run (N : Nat) (Inv : Nat → XT → XT → Prop) : Prop := ∀ (i : Nat) (X Y : XT), i < 512 → Inv i X Y → ∃ (r : Int32) (X1 Y1 : XT), f_X7_run N  X = some (r, X1) ∧ f_X8_run N  Y = some (r, Y1) ∧ Inv (i + 1) X1 Y1
def m_st_undo (N : Nat) (Inv : Nat → XT → XT → Prop) : Prop := ∀ (i : Nat) (X Y : XT), i < 512 → Inv i X Y → ∃ (r : Int32) (X1 Y1 : XT), f_X7_undo N  X = some (r, X1) ∧ f_X8_undo N  Y = some (r, Y1) ∧ Inv (i + 1) X1 Y1
def m_st_save (N : Nat) (Inv : Nat → XT → XT → Prop) : Prop := ∀ (i : Nat) (X Y : XT), i < 512 → Inv i X Y → ∃ (r : Int32) (X1 Y1 : XT), f_X7_save N  X = some (r, X1) ∧ f_X8_save N  Y = some (r, Y1) ∧ Inv (i + 1) X1 Y1
def m_st_restore (N : Nat) (Inv : Nat → XT → XT → Prop) : Prop := ∀ (i : Nat) (X Y : XT), i < 512 → Inv i X Y → ∃ (r : Int32) (X1 Y1 : XT), f_X7_restore N  X = some (r, X1) ∧ f_X8_restore N  Y = some (r, Y1) ∧ Inv (i + 1) X1 Y1
def m_st_commit (N : Nat) (Inv : Nat → XT → XT → Prop) : Prop := ∀ (i : Nat) (X Y : XT), i < 512 → Inv i X Y → ∀ (v1 : Int32) (v2 : Int32), ∃ (r : Int32) (X1 Y1 : XT), f_X7_commit N v1 v2 X = some (r, X1) ∧ f_X8_commit N v1 v2 Y = some (r, Y1) ∧ Inv (i + 1) X1 Y1
def m_st_group (N : Nat) (Inv : Nat → XT → XT → Prop) : Prop := ∀ (i : Nat) (X Y : XT), i < 512 → Inv i X Y → ∀ (v1 : Int32) (v2 : Int32), ∃ (r : Int32) (X1 Y1 : XT), f_X7_group N v1 v2 X = some (r, X1) ∧ f_X8_group N v1 v2 Y = some (r, Y1) ∧ Inv (i + 1) X1 Y1
def m_st_member (N : Nat) (Inv : Nat → XT → XT → Prop) : Prop := ∀ (i : Nat) (X Y : XT), i < 512 → Inv i X Y → ∀ (v1 : Int32) (v2 : Int32), ∃ (r : Int32) (X1 Y1 : XT), f_X7_member N v1 v2 X = some (r, X1) ∧ f_X8_member N v1 v2 Y = some (r, Y1) ∧ Inv (i + 1) X1 Y1
def m_st_open (N : Nat) (Inv : Nat → XT → XT → Prop) : Prop := ∀ (i : Nat) (X Y : XT), i < 512 → Inv i X Y → ∀ (v1 : Int32), ∃ (r : Int32) (X1 Y1 : XT), f_X7_open N v1 X = some (r, X1) ∧ f_X8_open N v1 Y = some (r, Y1) ∧ Inv (i + 1) X1 Y1
def m_st_queued (N : Nat) (Inv : Nat → XT → XT → Prop) : Prop := ∀ (i : Nat) (X Y : XT), i < 512 → Inv i X Y → ∀ (v1 : Int32), ∃ (r : Int32) (X1 Y1 : XT), f_X7_queued N v1 X = some (r, X1) ∧ f_X8_queued N v1 Y = some (r, Y1) ∧ Inv (i + 1) X1 Y1
def m_st_count (N : Nat) (Inv : Nat → XT → XT → Prop) : Prop := ∀ (i : Nat) (X Y : XT), i < 512 → Inv i X Y → ∀ (v1 : Int32), ∃ (r : Int32) (X1 Y1 : XT), f_X7_count N v1 X = some (r, X1) ∧ f_X8_count N v1 Y = some (r, Y1) ∧ Inv (i + 1) X1 Y1
def m_st_total (N : Nat) (Inv : Nat → XT → XT → Prop) : Prop := ∀ (i : Nat) (X Y : XT), i < 512 → Inv i X Y → ∀ (v1 : Int32), ∃ (r : Int32) (X1 Y1 : XT), f_X7_total N v1 X = some (r, X1) ∧ f_X8_total N v1 Y = some (r, Y1) ∧ Inv (i + 1) X1 Y1
def m_st_answeredIn (N : Nat) (Inv : Nat → XT → XT → Prop) : Prop := ∀ (i : Nat) (X Y : XT), i < 512 → Inv i X Y → ∀ (v1 : Int32), ∃ (r : Int32) (X1 Y1 : XT), f_X7_answeredIn N v1 X = some (r, X1) ∧ f_X8_answeredIn N v1 Y = some (r, Y1) ∧ Inv (i + 1) X1 Y1
def m_st_ifSubmitted (N : Nat) (Inv : Nat → XT → XT → Prop) : Prop := ∀ (i : Nat) (X Y : XT), i < 512 → Inv i X Y → ∀ (v1 : Int32) (v2 : Int32), (v2 = 0 ∨ v2 = 1) → ∃ (r : Int32) (X1 Y1 : XT), f_X7_ifSubmitted N v1 v2 X = some (r, X1) ∧ f_X8_ifSubmitted N v1 v2 Y = some (r, Y1) ∧ Inv (i + 1) X1 Y1
def m_st_idleIn (N : Nat) (Inv : Nat → XT → XT → Prop) : Prop := ∀ (i : Nat) (X Y : XT), i < 512 → Inv i X Y → ∃ (r : Int32) (X1 Y1 : XT), f_X7_idleIn N  X = some (r, X1) ∧ f_X8_idleIn N  Y = some (r, Y1) ∧ Inv (i + 1) X1 Y1
def m_st_mean (Inv : Nat → XT → XT → Prop) : Prop := ∀ (i : Nat) (X Y : XT), i < 512 → Inv i X Y → X 19 7 = Y 1 15 ∧ X 19 1 = Y 1 10
def m_st_skip (Inv : Nat → XT → XT → Prop) : Prop := ∀ (i : Nat) (X Y : XT), i < 512 → Inv i X Y → Inv (i + 1) X Y
def m_Step (N : Nat) (Inv : Nat → XT → XT → Prop) : Prop := m_st_submit N Inv ∧ m_st_fail N Inv ∧ m_st_withdraw N Inv ∧ m_st_crash N Inv ∧ m_st_tick N Inv ∧ m_st_set N Inv ∧ m_st_append N Inv ∧ m_st_clearText N Inv ∧ m_st_fault N Inv ∧ m_st_run N Inv ∧ m_st_undo N Inv ∧ m_st_save N Inv ∧ m_st_restore N Inv ∧ m_st_commit N Inv ∧ m_st_group N Inv ∧ m_st_member N Inv ∧ m_st_open N Inv ∧ m_st_queued N Inv ∧ m_st_count N Inv ∧ m_st_total N Inv ∧ m_st_answeredIn N Inv ∧ m_st_ifSubmitted N Inv ∧ m_st_idleIn N Inv ∧ m_st_mean Inv ∧ m_st_skip Inv
def lw_K (p : Program) (s : State) (m : MethodId) (meth : Method) (c : Code) (b L : Nat) (xs : Nat → Int32) (D : va_G) (a a2 : Nat → Nat) (cy : Nat → ClassId) : Prop :=
  lw_At p s m meth c b L xs ∧ va_K D vwCl (m_tc cy) s ∧ m_ZC a s ∧ (∀ q, m_AC a q → s.heap.size ≤ q) ∧ (∀ q, m_AM a2 q → s.heap.size ≤ q) ∧ (∀ q, m_AC a q → ¬ m_AM a2 q) ∧ m_inj 131 a ∧ m_inj 6 a2
theorem lw_Xd {b L : Nat} {xs : Nat → Int32} {s : State} {H : Heap} {d : Drawn} (h : va_X b L xs s H) : va_X b L xs (s.setDrawn d) H := va_X.moved (u := s) (U := s.setDrawn d) (Vm.Alike.refl s.vm) h
abbrev lw_A0 (s : State) : Nat → Prop := fun q => s.heap.size ≤ q
theorem lw_ix0 {vi : Int32} {j L : Nat} (hL : L ≤ 2048) (hj : 4 * j + 4 ≤ L) (hvi : vi = nI (4 * j)) : vp_in vi L := by
  rw [hvi]; exact vp_in_nI (by omega) (by omega)
theorem lw_ix1 {vi : Int32} {j L : Nat} (hL : L ≤ 2048) (hj : 4 * j + 4 ≤ L) (hvi : vi = nI (4 * j)) : vp_in (vi + 1) L := by
  rw [hvi, nI_1]; exact vp_in_nI (by omega) (by omega)
theorem lw_ix2 {vi : Int32} {j L : Nat} (hL : L ≤ 2048) (hj : 4 * j + 4 ≤ L) (hvi : vi = nI (4 * j)) : vp_in (vi + 2) L := by
  rw [hvi, show (2 : Int32) = nI 2 from rfl, nI_add]; exact vp_in_nI (by omega) (by omega)
theorem lw_ix3 {vi : Int32} {j L : Nat} (hL : L ≤ 2048) (hj : 4 * j + 4 ≤ L) (hvi : vi = nI (4 * j)) : vp_in (vi + 3) L := by
  rw [hvi, show (3 : Int32) = nI 3 from rfl, nI_add]; exact vp_in_nI (by omega) (by omega)
theorem lw_goodV {own C : String} {idx mL : Nat} {y : MethodName} {bt : ByteArray} {rt : Option FieldType} (h1 : Cond.methodLink own idx y ∈ m_tbl) (h2 : Cond.instanceMethod y ∈ m_tbl) (h3 : Cond.selects C y y ∈ m_tbl) (h4 : Cond.initialized C ∈ m_tbl) (h5 : Cond.code y bt mL rt ∈ m_tbl) : GoodIn lw_tbl (wsV own idx C y (Cond.code y bt mL rt :: m_tbl)) := by
  have h := m_goodV (w0 := Cond.methodLink own idx y) h1 h2 h3 h4 h5
  intro w hw
  obtain ⟨g1, g2⟩ := h w hw
  refine ⟨m_tbl_lw ?_, g2⟩
  rcases List.mem_cons.mp g1 with rfl | g1
  · exact h1
  · exact g1
section LWC
variable {p : Program} {l : Launch} {e : Env} {s : State} {m : MethodId} {below : List Frame} {meth : Method} {c : Code} {H : Heap} {locs : List Loc} {Q : State → Prop} {b L : Nat} {xs : Nat → Int32} {D : va_G} {a a2 : Nat → Nat} {cy : Nat → ClassId} {pc : Nat} {ls : Array Slot} {X Y X1 Y1 : XT} {d0 : Drawn}
variable {y : MethodName} {rm : Room} {bt : ByteArray} {mL index n : Nat} {rt : Option FieldType} {st : List Value} {r : Int32}
theorem lw_keptX (K : lw_K p s m meth c b L xs D a a2 cy) (hPX : va_P D vwCl (m_WC a cy X) H) {H1 : Heap} (hk : ∀ q : Nat, q < H.size → ¬ m_AM a2 q → H1[q]? = H[q]?) : va_P D vwCl (m_WC a cy X) H1 := by
  refine hPX.kept (fun k q hq => ?_)
  have h1 := (m_wl_D K.2.2.2.2.2.2.1 _ X).2 k q hq
  exact hk q.1 ((hPX k q hq).lt) (K.2.2.2.2.2.1 q.1 h1)
theorem lw_keptY (K : lw_K p s m meth c b L xs D a a2 cy) (hPY : va_P D vwCl (m_WM a2 cy Y) H) {H1 : Heap} (hk : ∀ q : Nat, q < H.size → ¬ m_AC a q → H1[q]? = H[q]?) : va_P D vwCl (m_WM a2 cy Y) H1 := by
  refine hPY.kept (fun k q hq => ?_)
  have h1 := (m_wl_D K.2.2.2.2.2.2.2 _ Y).2 k q hq
  exact hk q.1 ((hPY k q hq).lt) (fun h => K.2.2.2.2.2.1 q.1 h h1)
theorem lw_fix (K : lw_K p s m meth c b L xs D a a2 cy) (d : Drawn) : CallFix p m c code 8 (s.setDrawn d) #[Value.ref b] lw_tbl RL := ⟨K.1.1, K.1.2.1, K.1.2.2.2.1, K.1.2.2.2.2.1, dr_words K.1.2.2.2.2.2.1 d⟩
theorem lw_PXC (K : lw_K p s m meth c b L xs D a a2 cy) (hPX : va_P D vwCl (m_WC a cy X) H) (hS : va_S (lw_A0 s) s.heap H locs) {U : State} (hU : U.heap = H) (hW : s.vm.Alike U.vm) : m_PX D (m_tc cy) (m_WC a cy) (m_ZC a) X U :=
  ⟨by rw [hU]; exact hPX, va_K.moved hW K.2.1, m_ZC_keep s U hW (fun q h1 _ => by rw [hU]; exact hS.2.1 q h1 (by show ¬ s.heap.size ≤ q; omega)) K.2.2.1⟩
theorem lw_PXM (K : lw_K p s m meth c b L xs D a a2 cy) (hPY : va_P D vwCl (m_WM a2 cy Y) H) {U : State} (hU : U.heap = H) (hW : s.vm.Alike U.vm) : m_PX D (m_tc cy) (m_WM a2 cy) m_ZM Y U :=
  ⟨by rw [hU]; exact hPY, va_K.moved hW K.2.1, trivial⟩
theorem lw_blindC {av : List Value} : FrameBlind (va_Pc av (m_PX D (m_tc cy) (m_WC a cy) (m_ZC a) X)) := fun _ U g mk q => by
  obtain ⟨q0, qP, qK, qZ⟩ := q
  exact ⟨q0, qP, va_K.moved (u := U) (U := U.calling g mk _) (Vm.Alike.refl U.vm) qK, m_ZC_keep U (U.calling g mk _) (Vm.Alike.refl U.vm) (fun _ _ _ => rfl) qZ⟩
theorem lw_blindM {av : List Value} : FrameBlind (va_Pc av (m_PX D (m_tc cy) (m_WM a2 cy) m_ZM Y)) := fun _ U g mk q => by
  obtain ⟨q0, qP, qK, qZ⟩ := q
  exact ⟨q0, qP, va_K.moved (u := U) (U := U.calling g mk _) (Vm.Alike.refl U.vm) qK, trivial⟩
theorem lw_callX (K : lw_K p s m meth c b L xs D a a2 cy) (As rest : List Value) (hM : Met l y (Cond.code y bt mL rt :: m_tbl) rm (va_Pc (.ref (a 126) :: As) (m_PX D (m_tc cy) (m_WC a cy) (m_ZC a) X)) (m_QI D (m_WC a cy) (m_AC a) r X1) 0 0 (m_AC a)) (hG : GoodIn lw_tbl (wsV RL index RX7 y (Cond.code y bt mL rt :: m_tbl))) (hrm : rm.cells = 0 ∧ rm.slots = 0) (hd : y.cls = RX7 ∧ y.cls ≠ "java/lang/invoke/MethodHandle" ∧ y.cls ≠ "java/lang/invoke/VarHandle" ∧ (parseMethodDescriptor y.desc).map (fun d => d.parameters.length) = some n) (hR : rm.frames + 1 ≤ room_1.frames ∧ 8 + (mL + 11) + rm.locals ≤ room_1.locals) (hPX : va_P D vwCl (m_WC a cy X) H) (hPY : va_P D vwCl (m_WM a2 cy Y) H) (hS : va_S (lw_A0 s) s.heap H locs) (hn : As.length = n) (hsz : ls.size = 8) (hst : st = As.reverse ++ .ref (a 126) :: rest) (hroom : (rest.map fun v => v.category).sum ≤ 8) (hdg : decode code pc = .ok (.invokevirtual index, 3))
    (kk : ∀ (H1 : Heap) (locs1 : List Loc), va_P D vwCl (m_WC a cy X1) H1 → va_P D vwCl (m_WM a2 cy Y) H1 → va_S (lw_A0 s) s.heap H1 locs1 → W p l e room_1 (s.setDrawn d0) m #[Value.ref b] below meth c H1 locs1 600000 7302250 Q (F0 m (pc + 3) ls (.int r :: rest))) : W p l e room_1 (s.setDrawn d0) m #[Value.ref b] below meth c H locs 600000 7302250 Q (F0 m pc ls st) := by
  refine va_calli (va_runV (As := As) (rest := rest) (lw_fix K d0) hM (cwV n (lw_fix K d0).2.2.2.2 hG rfl hrm.1 hrm.2 hd hR) ⟨lw_blindC, va_recv (ci := 7) (q := (RX7, TX7, 5)) K.2.1 hPX rfl mC_126, fun U hU hW => ⟨rfl, lw_PXC K hPX hS hU hW.alike⟩⟩ rfl hn hsz hst (lv_room hroom) hdg ⟨Nat.le_of_ble_eq_true rfl, Nat.le_of_ble_eq_true rfl⟩) hS (fun q _ h => K.2.2.2.1 q h) (fun q h => K.2.2.2.1 q h) (fun r' u t H1 locs1 ht hvm hw' hB hz hk hS1 => ?_)
  obtain ⟨rfl, rfl⟩ := hw'
  rw [ht] at hB
  exact kk H1 locs1 hB (lw_keptY K hPY hk) hS1
theorem lw_callY (K : lw_K p s m meth c b L xs D a a2 cy) (As rest : List Value) (hM : Met l y (Cond.code y bt mL rt :: m_tbl) rm (va_Pc (.ref (a2 0) :: As) (m_PX D (m_tc cy) (m_WM a2 cy) m_ZM Y)) (m_QI D (m_WM a2 cy) (m_AM a2) r Y1) 0 0 (m_AM a2)) (hG : GoodIn lw_tbl (wsV RL index RX8 y (Cond.code y bt mL rt :: m_tbl))) (hrm : rm.cells = 0 ∧ rm.slots = 0) (hd : y.cls = RX8 ∧ y.cls ≠ "java/lang/invoke/MethodHandle" ∧ y.cls ≠ "java/lang/invoke/VarHandle" ∧ (parseMethodDescriptor y.desc).map (fun d => d.parameters.length) = some n) (hR : rm.frames + 1 ≤ room_1.frames ∧ 8 + (mL + 11) + rm.locals ≤ room_1.locals) (hPX : va_P D vwCl (m_WC a cy X) H) (hPY : va_P D vwCl (m_WM a2 cy Y) H) (hS : va_S (lw_A0 s) s.heap H locs) (hn : As.length = n) (hsz : ls.size = 8) (hst : st = As.reverse ++ .ref (a2 0) :: rest) (hroom : (rest.map fun v => v.category).sum ≤ 8) (hdg : decode code pc = .ok (.invokevirtual index, 3))
    (kk : ∀ (H1 : Heap) (locs1 : List Loc), va_P D vwCl (m_WC a cy X) H1 → va_P D vwCl (m_WM a2 cy Y1) H1 → va_S (lw_A0 s) s.heap H1 locs1 → W p l e room_1 (s.setDrawn d0) m #[Value.ref b] below meth c H1 locs1 600000 7302250 Q (F0 m (pc + 3) ls (.int r :: rest))) : W p l e room_1 (s.setDrawn d0) m #[Value.ref b] below meth c H locs 600000 7302250 Q (F0 m pc ls st) := by
  refine va_calli (va_runV (As := As) (rest := rest) (lw_fix K d0) hM (cwV n (lw_fix K d0).2.2.2.2 hG rfl hrm.1 hrm.2 hd hR) ⟨lw_blindM, va_recv (ci := 8) (q := (RX8, TX8, 13)) K.2.1 hPY rfl mM_0, fun U hU hW => ⟨rfl, lw_PXM K hPY hU hW.alike⟩⟩ rfl hn hsz hst (lv_room hroom) hdg ⟨Nat.le_of_ble_eq_true rfl, Nat.le_of_ble_eq_true rfl⟩) hS (fun q _ h => K.2.2.2.2.1 q h) (fun q h => K.2.2.2.2.1 q h) (fun r' u t H1 locs1 ht hvm hw' hB hz hk hS1 => ?_)
  obtain ⟨rfl, rfl⟩ := hw'
  rw [ht] at hB
  exact kk H1 locs1 (lw_keptX K hPX hk) hB hS1
theorem lw_callXd (hd0 : s.drawn.sameBut d0 lw_cs) {w z : Int32} (K : lw_K p s m meth c b L xs D a a2 cy) (hM : MetD lw_cs l y (Cond.code y bt mL rt :: m_tbl) rm (va_Pc [.ref (a 126)] (m_PX D (m_tc cy) (m_WC a cy) (m_ZC a) X)) (m_QD D (m_WC a cy) (m_AC a) w z X) 0 0 (m_AC a)) (hG : GoodIn lw_tbl (wsV RL index RX7 y (Cond.code y bt mL rt :: m_tbl))) (hrm : rm.cells = 0 ∧ rm.slots = 0) (hd : y.cls = RX7 ∧ y.cls ≠ "java/lang/invoke/MethodHandle" ∧ y.cls ≠ "java/lang/invoke/VarHandle" ∧ (parseMethodDescriptor y.desc).map (fun d => d.parameters.length) = some 0) (hR : rm.frames + 1 ≤ room_1.frames ∧ 8 + (mL + 11) + rm.locals ≤ room_1.locals) (hPX : va_P D vwCl (m_WC a cy X) H) (hPY : va_P D vwCl (m_WM a2 cy Y) H) (hS : va_S (lw_A0 s) s.heap H locs) (hsz : ls.size = 8) (hdg : decode code pc = .ok (.invokevirtual index, 3))
    (kk : ∀ (q : UInt64) (H1 : Heap) (locs1 : List Loc) (d1 : Drawn), s.drawn.sameBut d1 lw_cs → m_mean q w z → va_P D vwCl (m_WC a cy X) H1 → va_P D vwCl (m_WM a2 cy Y) H1 → va_S (lw_A0 s) s.heap H1 locs1 → W p l e room_1 (s.setDrawn d1) m #[Value.ref b] below meth c H1 locs1 600000 7302250 Q (F0 m (pc + 3) ls [.double q])) : W p l e room_1 (s.setDrawn d0) m #[Value.ref b] below meth c H locs 600000 7302250 Q (F0 m pc ls [.ref (a 126)]) := by
  refine va_calldD hd0 (va_runV_D (As := []) (rest := []) (lw_fix K d0) hM (cwV 0 (lw_fix K d0).2.2.2.2 hG rfl hrm.1 hrm.2 hd hR) ⟨lw_blindC, va_recv (ci := 7) (q := (RX7, TX7, 5)) K.2.1 hPX rfl mC_126, fun U hU hW => ⟨rfl, lw_PXC K hPX hS hU hW.alike⟩⟩ rfl rfl hsz rfl (lv_room (Nat.le_of_ble_eq_true rfl)) hdg ⟨Nat.le_of_ble_eq_true rfl, Nat.le_of_ble_eq_true rfl⟩) hS (fun q _ h => K.2.2.2.1 q h) (fun q h => K.2.2.2.1 q h) (fun r' u t H1 locs1 ht hvm hw' hB hz hk hS1 d1 hd1 => ?_)
  obtain ⟨hw', rfl⟩ := hw'
  rw [ht] at hB
  exact kk r' H1 locs1 d1 hd1 hw' hB (lw_keptY K hPY hk) hS1
theorem lw_callYd (hd0 : s.drawn.sameBut d0 lw_cs) {w z : Int32} (K : lw_K p s m meth c b L xs D a a2 cy) (hM : MetD lw_cs l y (Cond.code y bt mL rt :: m_tbl) rm (va_Pc [.ref (a2 0)] (m_PX D (m_tc cy) (m_WM a2 cy) m_ZM Y)) (m_QD D (m_WM a2 cy) (m_AM a2) w z Y) 0 0 (m_AM a2)) (hG : GoodIn lw_tbl (wsV RL index RX8 y (Cond.code y bt mL rt :: m_tbl))) (hrm : rm.cells = 0 ∧ rm.slots = 0) (hd : y.cls = RX8 ∧ y.cls ≠ "java/lang/invoke/MethodHandle" ∧ y.cls ≠ "java/lang/invoke/VarHandle" ∧ (parseMethodDescriptor y.desc).map (fun d => d.parameters.length) = some 0) (hR : rm.frames + 1 ≤ room_1.frames ∧ 8 + (mL + 11) + rm.locals ≤ room_1.locals) (hPX : va_P D vwCl (m_WC a cy X) H) (hPY : va_P D vwCl (m_WM a2 cy Y) H) (hS : va_S (lw_A0 s) s.heap H locs) (hsz : ls.size = 8) (hdg : decode code pc = .ok (.invokevirtual index, 3))
    (kk : ∀ (q : UInt64) (H1 : Heap) (locs1 : List Loc) (d1 : Drawn), s.drawn.sameBut d1 lw_cs → m_mean q w z → va_P D vwCl (m_WC a cy X) H1 → va_P D vwCl (m_WM a2 cy Y) H1 → va_S (lw_A0 s) s.heap H1 locs1 → W p l e room_1 (s.setDrawn d1) m #[Value.ref b] below meth c H1 locs1 600000 7302250 Q (F0 m (pc + 3) ls [.double q])) : W p l e room_1 (s.setDrawn d0) m #[Value.ref b] below meth c H locs 600000 7302250 Q (F0 m pc ls [.ref (a2 0)]) := by
  refine va_calldD hd0 (va_runV_D (As := []) (rest := []) (lw_fix K d0) hM (cwV 0 (lw_fix K d0).2.2.2.2 hG rfl hrm.1 hrm.2 hd hR) ⟨lw_blindM, va_recv (ci := 8) (q := (RX8, TX8, 13)) K.2.1 hPY rfl mM_0, fun U hU hW => ⟨rfl, lw_PXM K hPY hU hW.alike⟩⟩ rfl rfl hsz rfl (lv_room (Nat.le_of_ble_eq_true rfl)) hdg ⟨Nat.le_of_ble_eq_true rfl, Nat.le_of_ble_eq_true rfl⟩) hS (fun q _ h => K.2.2.2.2.1 q h) (fun q h => K.2.2.2.2.1 q h) (fun r' u t H1 locs1 ht hvm hw' hB hz hk hS1 d1 hd1 => ?_)
  obtain ⟨hw', rfl⟩ := hw'
  rw [ht] at hB
  exact kk r' H1 locs1 d1 hd1 hw' (lw_keptX K hPX hk) hB hS1
end LWC
/-- a NaN is not its like -/
theorem m_nan_cmp {r : UInt64} (h : isNaN64 r = true) : FP.dcmp r r = none := by
  have h1 := isNaN64_iff.mp h
  rw [show (0x7fffffffffffffff : Nat) = 2 ^ 63 - 1 from rfl, Nat.and_two_pow_sub_one_eq_mod] at h1
  have e1 : FP.Core.fieldE FP.Core.b64 r.toNat = FP.Core.b64.exps - 1 := by
    show r.toNat / 2 ^ 52 % 2 ^ 11 = 2 ^ 11 - 1
    omega
  have e2 : ¬ FP.Core.fieldT FP.Core.b64 r.toNat = 0 := by
    show ¬ r.toNat % 2 ^ 52 = 0
    omega
  have e3 : FP.Core.decode FP.Core.b64 r.toNat = FP.Core.Datum.nan := by
    unfold FP.Core.decode
    rw [if_pos e1, if_neg e2]
  unfold FP.dcmp FP.Core.dcmp FP.Core.cmp
  rw [e3]
  rfl
theorem m_mean_two {q1 q2 : UInt64} {w n : Int32} (h1 : m_mean q1 w n) (h2 : m_mean q2 w n) : q1 = q2 ∨ (FP.dcmp q1 q1 = none ∧ FP.dcmp q2 q2 = none) := by
  rcases h1 with ⟨a1, b1⟩ | ⟨a1, b1⟩ <;> rcases h2 with ⟨a2, b2⟩ | ⟨a2, b2⟩
  · exact Or.inl (b1.trans b2.symm)
  · exact absurd a1 a2
  · exact absurd a2 a1
  · simp only [alike64, Bool.or_eq_true, decide_eq_true_eq, Bool.and_eq_true] at b1 b2
    rcases b1 with rfl | ⟨c1, c2⟩
    · rcases b2 with rfl | ⟨d1, d2⟩
      · exact Or.inl rfl
      · exact Or.inr ⟨m_nan_cmp d2, m_nan_cmp d1⟩
    · rcases b2 with rfl | ⟨d1, d2⟩
      · exact Or.inr ⟨m_nan_cmp c1, m_nan_cmp c2⟩
      · exact Or.inr ⟨m_nan_cmp c1, m_nan_cmp d1⟩
set_option maxHeartbeats 4000000 in
set_option maxRecDepth 100000 in
theorem law_submit (l : Launch) {p : Program} {e : Env} {s : State} {m : MethodId} {below : List Frame} {meth : Method} {c : Code} {b L : Nat} {xs : Nat → Int32} {D : va_G} {a a2 : Nat → Nat} {cy : Nat → ClassId} (hL : L ≤ 2048) (K : lw_K p s m meth c b L xs D a a2 cy) {N : Nat} {Inv : Nat → XT → XT → Prop} (hst : m_Step N Inv) (j : Nat) (hj : 4 * j + 4 ≤ L) (vi : Int32) (hvi : vi = nI (4 * j)) (X Y : XT) (hI : Inv j X Y) (d0 : Drawn) (hd0 : s.drawn.sameBut d0 lw_cs) (H : Heap) (locs : List Loc) (ls : Array Slot) (hPX : va_P D vwCl (m_WC a cy X) H) (hPY : va_P D vwCl (m_WM a2 cy Y) H) (hS : va_S (lw_A0 s) s.heap H locs) (hl : lv_has ls 8 [(0, .ref b), (1, .ref (a 126)), (2, .ref (a2 0)), (3, .int vi)]) (kback : ∀ (X1 Y1 : XT) (d1 : Drawn) (H1 : Heap) (locs1 : List Loc) (ls1 : Array Slot), s.drawn.sameBut d1 lw_cs → Inv (j + 1) X1 Y1 → va_P D vwCl (m_WC a cy X1) H1 → va_P D vwCl (m_WM a2 cy Y1) H1 → va_S (lw_A0 s) s.heap H1 locs1 → lv_has ls1 8 [(0, .ref b), (1, .ref (a 126)), (2, .ref (a2 0)), (3, .int vi)] → W p l e room_1 (s.setDrawn d1) m #[Value.ref b] below meth c H1 locs1 600000 7302250 (lw_Z below #[Value.ref b] s) (F0 m 736 ls1 [])) : W p l e room_1 (s.setDrawn d0) m #[Value.ref b] below meth c H locs 600000 7302250 (lw_Z below #[Value.ref b] s) (F0 m 144 ls []) := by
  have hx := K.1.1
  have hb := K.1.2.1
  have hX := K.1.2.2.2.2.2.2.1
  have hbl := K.1.2.2.2.2.2.2.2.1
  have hbA : ¬ lw_A0 s b := Nat.not_le.mpr hbl
  refine lv_aload_n hx hb dL_law_144 rfl (lv_at hl 1 rfl) ?_
  refine lv_aload_n hx hb dL_law_145 rfl (lv_at hl 0 rfl) ?_
  refine lv_iload_n hx hb dL_law_146 rfl (lv_at hl 3 rfl) ?_
  refine lv_iconst (v := 1) hx hb dL_law_147 (by decide) ?_
  refine lv_iadd hx hb dL_law_148 ?_
  refine va_sld hx hb (lw_Xd hX) hbl hbA hS (lw_ix1 hL hj hvi) dL_law_149 ?_
  refine lv_aload_n hx hb dL_law_150 rfl (lv_at hl 0 rfl) ?_
  refine lv_iload_n hx hb dL_law_151 rfl (lv_at hl 3 rfl) ?_
  refine lv_iconst (v := 2) hx hb dL_law_152 (by decide) ?_
  refine lv_iadd hx hb dL_law_153 ?_
  refine va_sld hx hb (lw_Xd hX) hbl hbA hS (lw_ix2 hL hj hvi) dL_law_154 ?_
  refine lv_aload_n hx hb dL_law_155 rfl (lv_at hl 0 rfl) ?_
  refine lv_iload_n hx hb dL_law_156 rfl (lv_at hl 3 rfl) ?_
  refine lv_iconst (v := 3) hx hb dL_law_157 (by decide) ?_
  refine lv_iadd hx hb dL_law_158 ?_
  refine va_sld hx hb (lw_Xd hX) hbl hbA hS (lw_ix3 hL hj hvi) dL_law_159 ?_
  refine lv_if_eq (tgt := 167) hx hb dL_law_160 (by decide) (fun c_1 => ?_) (fun c_1 => ?_)
  · have z_1 := c_1
    refine lv_iconst (v := 0) hx hb dL_law_167 (by decide) ?_
    obtain ⟨r, X1, Y1, h1, h2, hI1⟩ := hst.1 j X Y (by omega) hI (xs (Int32.toNatClampNeg (vi + 1))) (xs (Int32.toNatClampNeg (vi + 2))) 0 (Or.inl rfl)
    refine lw_callX K [.int (xs (Int32.toNatClampNeg (vi + 1))), .int (xs (Int32.toNatClampNeg (vi + 2))), .int 0] [] (c_X7_submit l D a cy K.2.2.2.2.2.2.1 N _ _ _ _ h1) (lw_goodV wl_L_13 wi_X7_submit ws_X7_submit wn_X7 wc_X7_submit) ⟨rfl, rfl⟩ hv_X7_submit ⟨Nat.le_of_ble_eq_true rfl, Nat.le_of_ble_eq_true rfl⟩ hPX hPY hS rfl hl.1 rfl (Nat.le_of_ble_eq_true rfl) dL_law_168 (fun H locs hPX hPY hS => ?_)
    refine lv_aload_n hx hb dL_law_171 rfl (lv_at hl 2 rfl) ?_
    refine lv_aload_n hx hb dL_law_172 rfl (lv_at hl 0 rfl) ?_
    refine lv_iload_n hx hb dL_law_173 rfl (lv_at hl 3 rfl) ?_
    refine lv_iconst (v := 1) hx hb dL_law_174 (by decide) ?_
    refine lv_iadd hx hb dL_law_175 ?_
    refine va_sld hx hb (lw_Xd hX) hbl hbA hS (lw_ix1 hL hj hvi) dL_law_176 ?_
    refine lv_aload_n hx hb dL_law_177 rfl (lv_at hl 0 rfl) ?_
    refine lv_iload_n hx hb dL_law_178 rfl (lv_at hl 3 rfl) ?_
    refine lv_iconst (v := 2) hx hb dL_law_179 (by decide) ?_
    refine lv_iadd hx hb dL_law_180 ?_
    refine va_sld hx hb (lw_Xd hX) hbl hbA hS (lw_ix2 hL hj hvi) dL_law_181 ?_
    refine lv_aload_n hx hb dL_law_182 rfl (lv_at hl 0 rfl) ?_
    refine lv_iload_n hx hb dL_law_183 rfl (lv_at hl 3 rfl) ?_
    refine lv_iconst (v := 3) hx hb dL_law_184 (by decide) ?_
    refine lv_iadd hx hb dL_law_185 ?_
    refine va_sld hx hb (lw_Xd hX) hbl hbA hS (lw_ix3 hL hj hvi) dL_law_186 ?_
    refine lv_if_eq (tgt := 194) hx hb dL_law_187 (by decide) (fun _ => ?_) (fun h => absurd c_1 h)
    refine lv_iconst (v := 0) hx hb dL_law_194 (by decide) ?_
    refine lw_callY K [.int (xs (Int32.toNatClampNeg (vi + 1))), .int (xs (Int32.toNatClampNeg (vi + 2))), .int 0] [.int r] (c_X8_submit l D a2 cy K.2.2.2.2.2.2.2 N _ _ _ _ h2) (lw_goodV wl_L_17 wi_X8_submit ws_X8_submit wn_X8 wc_X8_submit) ⟨rfl, rfl⟩ hv_X8_submit ⟨Nat.le_of_ble_eq_true rfl, Nat.le_of_ble_eq_true rfl⟩ hPX hPY hS rfl hl.1 rfl (Nat.le_of_ble_eq_true rfl) dL_law_195 (fun H locs hPX hPY hS => ?_)
    refine lv_icmp_eq (tgt := 736) hx hb dL_law_198 (by decide) (fun _ => ?_) (fun h => absurd rfl h)
    exact kback X1 Y1 d0 H locs ls hd0 hI1 hPX hPY hS (lv_sub hl [0, 1, 2, 3] rfl)
  · have z_1 := c_1
    refine lv_iconst (v := 1) hx hb dL_law_163 (by decide) ?_
    refine lv_goto (tgt := 168) hx hb dL_law_164 (by decide) ?_
    obtain ⟨r, X1, Y1, h1, h2, hI1⟩ := hst.1 j X Y (by omega) hI (xs (Int32.toNatClampNeg (vi + 1))) (xs (Int32.toNatClampNeg (vi + 2))) 1 (Or.inr rfl)
    refine lw_callX K [.int (xs (Int32.toNatClampNeg (vi + 1))), .int (xs (Int32.toNatClampNeg (vi + 2))), .int 1] [] (c_X7_submit l D a cy K.2.2.2.2.2.2.1 N _ _ _ _ h1) (lw_goodV wl_L_13 wi_X7_submit ws_X7_submit wn_X7 wc_X7_submit) ⟨rfl, rfl⟩ hv_X7_submit ⟨Nat.le_of_ble_eq_true rfl, Nat.le_of_ble_eq_true rfl⟩ hPX hPY hS rfl hl.1 rfl (Nat.le_of_ble_eq_true rfl) dL_law_168 (fun H locs hPX hPY hS => ?_)
    refine lv_aload_n hx hb dL_law_171 rfl (lv_at hl 2 rfl) ?_
    refine lv_aload_n hx hb dL_law_172 rfl (lv_at hl 0 rfl) ?_
    refine lv_iload_n hx hb dL_law_173 rfl (lv_at hl 3 rfl) ?_
    refine lv_iconst (v := 1) hx hb dL_law_174 (by decide) ?_
    refine lv_iadd hx hb dL_law_175 ?_
    refine va_sld hx hb (lw_Xd hX) hbl hbA hS (lw_ix1 hL hj hvi) dL_law_176 ?_
    refine lv_aload_n hx hb dL_law_177 rfl (lv_at hl 0 rfl) ?_
    refine lv_iload_n hx hb dL_law_178 rfl (lv_at hl 3 rfl) ?_
    refine lv_iconst (v := 2) hx hb dL_law_179 (by decide) ?_
    refine lv_iadd hx hb dL_law_180 ?_
    refine va_sld hx hb (lw_Xd hX) hbl hbA hS (lw_ix2 hL hj hvi) dL_law_181 ?_
    refine lv_aload_n hx hb dL_law_182 rfl (lv_at hl 0 rfl) ?_
    refine lv_iload_n hx hb dL_law_183 rfl (lv_at hl 3 rfl) ?_
    refine lv_iconst (v := 3) hx hb dL_law_184 (by decide) ?_
    refine lv_iadd hx hb dL_law_185 ?_
    refine va_sld hx hb (lw_Xd hX) hbl hbA hS (lw_ix3 hL hj hvi) dL_law_186 ?_
    refine lv_if_eq (tgt := 194) hx hb dL_law_187 (by decide) (fun h => absurd h c_1) (fun _ => ?_)
    refine lv_iconst (v := 1) hx hb dL_law_190 (by decide) ?_
    refine lv_goto (tgt := 195) hx hb dL_law_191 (by decide) ?_
    refine lw_callY K [.int (xs (Int32.toNatClampNeg (vi + 1))), .int (xs (Int32.toNatClampNeg (vi + 2))), .int 1] [.int r] (c_X8_submit l D a2 cy K.2.2.2.2.2.2.2 N _ _ _ _ h2) (lw_goodV wl_L_17 wi_X8_submit ws_X8_submit wn_X8 wc_X8_submit) ⟨rfl, rfl⟩ hv_X8_submit ⟨Nat.le_of_ble_eq_true rfl, Nat.le_of_ble_eq_true rfl⟩ hPX hPY hS rfl hl.1 rfl (Nat.le_of_ble_eq_true rfl) dL_law_195 (fun H locs hPX hPY hS => ?_)
    refine lv_icmp_eq (tgt := 736) hx hb dL_law_198 (by decide) (fun _ => ?_) (fun h => absurd rfl h)
    exact kback X1 Y1 d0 H locs ls hd0 hI1 hPX hPY hS (lv_sub hl [0, 1, 2, 3] rfl)
set_option maxHeartbeats 4000000 in
set_option maxRecDepth 100000 in
theorem law_fail (l : Launch) {p : Program} {e : Env} {s : State} {m : MethodId} {below : List Frame} {meth : Method} {c : Code} {b L : Nat} {xs : Nat → Int32} {D : va_G} {a a2 : Nat → Nat} {cy : Nat → ClassId} (hL : L ≤ 2048) (K : lw_K p s m meth c b L xs D a a2 cy) {N : Nat} {Inv : Nat → XT → XT → Prop} (hst : m_Step N Inv) (j : Nat) (hj : 4 * j + 4 ≤ L) (vi : Int32) (hvi : vi = nI (4 * j)) (X Y : XT) (hI : Inv j X Y) (d0 : Drawn) (hd0 : s.drawn.sameBut d0 lw_cs) (H : Heap) (locs : List Loc) (ls : Array Slot) (hPX : va_P D vwCl (m_WC a cy X) H) (hPY : va_P D vwCl (m_WM a2 cy Y) H) (hS : va_S (lw_A0 s) s.heap H locs) (hl : lv_has ls 8 [(0, .ref b), (1, .ref (a 126)), (2, .ref (a2 0)), (3, .int vi)]) (kback : ∀ (X1 Y1 : XT) (d1 : Drawn) (H1 : Heap) (locs1 : List Loc) (ls1 : Array Slot), s.drawn.sameBut d1 lw_cs → Inv (j + 1) X1 Y1 → va_P D vwCl (m_WC a cy X1) H1 → va_P D vwCl (m_WM a2 cy Y1) H1 → va_S (lw_A0 s) s.heap H1 locs1 → lv_has ls1 8 [(0, .ref b), (1, .ref (a 126)), (2, .ref (a2 0)), (3, .int vi)] → W p l e room_1 (s.setDrawn d1) m #[Value.ref b] below meth c H1 locs1 600000 7302250 (lw_Z below #[Value.ref b] s) (F0 m 736 ls1 [])) : W p l e room_1 (s.setDrawn d0) m #[Value.ref b] below meth c H locs 600000 7302250 (lw_Z below #[Value.ref b] s) (F0 m 203 ls []) := by
  have hx := K.1.1
  have hb := K.1.2.1
  have hX := K.1.2.2.2.2.2.2.1
  have hbl := K.1.2.2.2.2.2.2.2.1
  have hbA : ¬ lw_A0 s b := Nat.not_le.mpr hbl
  refine lv_aload_n hx hb dL_law_203 rfl (lv_at hl 1 rfl) ?_
  refine lv_aload_n hx hb dL_law_204 rfl (lv_at hl 0 rfl) ?_
  refine lv_iload_n hx hb dL_law_205 rfl (lv_at hl 3 rfl) ?_
  refine lv_iconst (v := 1) hx hb dL_law_206 (by decide) ?_
  refine lv_iadd hx hb dL_law_207 ?_
  refine va_sld hx hb (lw_Xd hX) hbl hbA hS (lw_ix1 hL hj hvi) dL_law_208 ?_
  obtain ⟨r, X1, Y1, h1, h2, hI1⟩ := hst.2.1 j X Y (by omega) hI (xs (Int32.toNatClampNeg (vi + 1)))
  refine lw_callX K [.int (xs (Int32.toNatClampNeg (vi + 1)))] [] (c_X7_fail l D a cy K.2.2.2.2.2.2.1 N _ _ h1) (lw_goodV wl_L_18 wi_X7_fail ws_X7_fail wn_X7 wc_X7_fail) ⟨rfl, rfl⟩ hv_X7_fail ⟨Nat.le_of_ble_eq_true rfl, Nat.le_of_ble_eq_true rfl⟩ hPX hPY hS rfl hl.1 rfl (Nat.le_of_ble_eq_true rfl) dL_law_209 (fun H locs hPX hPY hS => ?_)
  refine lv_aload_n hx hb dL_law_212 rfl (lv_at hl 2 rfl) ?_
  refine lv_aload_n hx hb dL_law_213 rfl (lv_at hl 0 rfl) ?_
  refine lv_iload_n hx hb dL_law_214 rfl (lv_at hl 3 rfl) ?_
  refine lv_iconst (v := 1) hx hb dL_law_215 (by decide) ?_
  refine lv_iadd hx hb dL_law_216 ?_
  refine va_sld hx hb (lw_Xd hX) hbl hbA hS (lw_ix1 hL hj hvi) dL_law_217 ?_
  refine lw_callY K [.int (xs (Int32.toNatClampNeg (vi + 1)))] [.int r] (c_X8_fail l D a2 cy K.2.2.2.2.2.2.2 N _ _ h2) (lw_goodV wl_L_22 wi_X8_fail ws_X8_fail wn_X8 wc_X8_fail) ⟨rfl, rfl⟩ hv_X8_fail ⟨Nat.le_of_ble_eq_true rfl, Nat.le_of_ble_eq_true rfl⟩ hPX hPY hS rfl hl.1 rfl (Nat.le_of_ble_eq_true rfl) dL_law_218 (fun H locs hPX hPY hS => ?_)
  refine lv_icmp_eq (tgt := 736) hx hb dL_law_221 (by decide) (fun _ => ?_) (fun h => absurd rfl h)
  exact kback X1 Y1 d0 H locs ls hd0 hI1 hPX hPY hS (lv_sub hl [0, 1, 2, 3] rfl)
set_option maxHeartbeats 4000000 in
set_option maxRecDepth 100000 in
theorem law_withdraw (l : Launch) {p : Program} {e : Env} {s : State} {m : MethodId} {below : List Frame} {meth : Method} {c : Code} {b L : Nat} {xs : Nat → Int32} {D : va_G} {a a2 : Nat → Nat} {cy : Nat → ClassId} (hL : L ≤ 2048) (K : lw_K p s m meth c b L xs D a a2 cy) {N : Nat} {Inv : Nat → XT → XT → Prop} (hst : m_Step N Inv) (j : Nat) (hj : 4 * j + 4 ≤ L) (vi : Int32) (hvi : vi = nI (4 * j)) (X Y : XT) (hI : Inv j X Y) (d0 : Drawn) (hd0 : s.drawn.sameBut d0 lw_cs) (H : Heap) (locs : List Loc) (ls : Array Slot) (hPX : va_P D vwCl (m_WC a cy X) H) (hPY : va_P D vwCl (m_WM a2 cy Y) H) (hS : va_S (lw_A0 s) s.heap H locs) (hl : lv_has ls 8 [(0, .ref b), (1, .ref (a 126)), (2, .ref (a2 0)), (3, .int vi)]) (kback : ∀ (X1 Y1 : XT) (d1 : Drawn) (H1 : Heap) (locs1 : List Loc) (ls1 : Array Slot), s.drawn.sameBut d1 lw_cs → Inv (j + 1) X1 Y1 → va_P D vwCl (m_WC a cy X1) H1 → va_P D vwCl (m_WM a2 cy Y1) H1 → va_S (lw_A0 s) s.heap H1 locs1 → lv_has ls1 8 [(0, .ref b), (1, .ref (a 126)), (2, .ref (a2 0)), (3, .int vi)] → W p l e room_1 (s.setDrawn d1) m #[Value.ref b] below meth c H1 locs1 600000 7302250 (lw_Z below #[Value.ref b] s) (F0 m 736 ls1 [])) : W p l e room_1 (s.setDrawn d0) m #[Value.ref b] below meth c H locs 600000 7302250 (lw_Z below #[Value.ref b] s) (F0 m 226 ls []) := by
  have hx := K.1.1
  have hb := K.1.2.1
  have hX := K.1.2.2.2.2.2.2.1
  have hbl := K.1.2.2.2.2.2.2.2.1
  have hbA : ¬ lw_A0 s b := Nat.not_le.mpr hbl
  refine lv_aload_n hx hb dL_law_226 rfl (lv_at hl 1 rfl) ?_
  refine lv_aload_n hx hb dL_law_227 rfl (lv_at hl 0 rfl) ?_
  refine lv_iload_n hx hb dL_law_228 rfl (lv_at hl 3 rfl) ?_
  refine lv_iconst (v := 1) hx hb dL_law_229 (by decide) ?_
  refine lv_iadd hx hb dL_law_230 ?_
  refine va_sld hx hb (lw_Xd hX) hbl hbA hS (lw_ix1 hL hj hvi) dL_law_231 ?_
  obtain ⟨r, X1, Y1, h1, h2, hI1⟩ := hst.2.2.1 j X Y (by omega) hI (xs (Int32.toNatClampNeg (vi + 1)))
  refine lw_callX K [.int (xs (Int32.toNatClampNeg (vi + 1)))] [] (c_X7_withdraw l D a cy K.2.2.2.2.2.2.1 N _ _ h1) (lw_goodV wl_L_23 wi_X7_withdraw ws_X7_withdraw wn_X7 wc_X7_withdraw) ⟨rfl, rfl⟩ hv_X7_withdraw ⟨Nat.le_of_ble_eq_true rfl, Nat.le_of_ble_eq_true rfl⟩ hPX hPY hS rfl hl.1 rfl (Nat.le_of_ble_eq_true rfl) dL_law_232 (fun H locs hPX hPY hS => ?_)
  refine lv_aload_n hx hb dL_law_235 rfl (lv_at hl 2 rfl) ?_
  refine lv_aload_n hx hb dL_law_236 rfl (lv_at hl 0 rfl) ?_
  refine lv_iload_n hx hb dL_law_237 rfl (lv_at hl 3 rfl) ?_
  refine lv_iconst (v := 1) hx hb dL_law_238 (by decide) ?_
  refine lv_iadd hx hb dL_law_239 ?_
  refine va_sld hx hb (lw_Xd hX) hbl hbA hS (lw_ix1 hL hj hvi) dL_law_240 ?_
  refine lw_callY K [.int (xs (Int32.toNatClampNeg (vi + 1)))] [.int r] (c_X8_withdraw l D a2 cy K.2.2.2.2.2.2.2 N _ _ h2) (lw_goodV wl_L_26 wi_X8_withdraw ws_X8_withdraw wn_X8 wc_X8_withdraw) ⟨rfl, rfl⟩ hv_X8_withdraw ⟨Nat.le_of_ble_eq_true rfl, Nat.le_of_ble_eq_true rfl⟩ hPX hPY hS rfl hl.1 rfl (Nat.le_of_ble_eq_true rfl) dL_law_241 (fun H locs hPX hPY hS => ?_)
  refine lv_icmp_eq (tgt := 736) hx hb dL_law_244 (by decide) (fun _ => ?_) (fun h => absurd rfl h)
  exact kback X1 Y1 d0 H locs ls hd0 hI1 hPX hPY hS (lv_sub hl [0, 1, 2, 3] rfl)
set_option maxHeartbeats 4000000 in
set_option maxRecDepth 100000 in
theorem law_crash (l : Launch) {p : Program} {e : Env} {s : State} {m : MethodId} {below : List Frame} {meth : Method} {c : Code} {b L : Nat} {xs : Nat → Int32} {D : va_G} {a a2 : Nat → Nat} {cy : Nat → ClassId} (hL : L ≤ 2048) (K : lw_K p s m meth c b L xs D a a2 cy) {N : Nat} {Inv : Nat → XT → XT → Prop} (hst : m_Step N Inv) (j : Nat) (hj : 4 * j + 4 ≤ L) (vi : Int32) (hvi : vi = nI (4 * j)) (X Y : XT) (hI : Inv j X Y) (d0 : Drawn) (hd0 : s.drawn.sameBut d0 lw_cs) (H : Heap) (locs : List Loc) (ls : Array Slot) (hPX : va_P D vwCl (m_WC a cy X) H) (hPY : va_P D vwCl (m_WM a2 cy Y) H) (hS : va_S (lw_A0 s) s.heap H locs) (hl : lv_has ls 8 [(0, .ref b), (1, .ref (a 126)), (2, .ref (a2 0)), (3, .int vi)]) (kback : ∀ (X1 Y1 : XT) (d1 : Drawn) (H1 : Heap) (locs1 : List Loc) (ls1 : Array Slot), s.drawn.sameBut d1 lw_cs → Inv (j + 1) X1 Y1 → va_P D vwCl (m_WC a cy X1) H1 → va_P D vwCl (m_WM a2 cy Y1) H1 → va_S (lw_A0 s) s.heap H1 locs1 → lv_has ls1 8 [(0, .ref b), (1, .ref (a 126)), (2, .ref (a2 0)), (3, .int vi)] → W p l e room_1 (s.setDrawn d1) m #[Value.ref b] below meth c H1 locs1 600000 7302250 (lw_Z below #[Value.ref b] s) (F0 m 736 ls1 [])) : W p l e room_1 (s.setDrawn d0) m #[Value.ref b] below meth c H locs 600000 7302250 (lw_Z below #[Value.ref b] s) (F0 m 249 ls []) := by
  have hx := K.1.1
  have hb := K.1.2.1
  have hX := K.1.2.2.2.2.2.2.1
  have hbl := K.1.2.2.2.2.2.2.2.1
  have hbA : ¬ lw_A0 s b := Nat.not_le.mpr hbl
  refine lv_aload_n hx hb dL_law_249 rfl (lv_at hl 1 rfl) ?_
  obtain ⟨r, X1, Y1, h1, h2, hI1⟩ := hst.2.2.2.1 j X Y (by omega) hI 
  refine lw_callX K [] [] (c_X7_crash l D a cy K.2.2.2.2.2.2.1 N  _ h1) (lw_goodV wl_L_27 wi_X7_crash ws_X7_crash wn_X7 wc_X7_crash) ⟨rfl, rfl⟩ hv_X7_crash ⟨Nat.le_of_ble_eq_true rfl, Nat.le_of_ble_eq_true rfl⟩ hPX hPY hS rfl hl.1 rfl (Nat.le_of_ble_eq_true rfl) dL_law_250 (fun H locs hPX hPY hS => ?_)
  refine lv_aload_n hx hb dL_law_253 rfl (lv_at hl 2 rfl) ?_
  refine lw_callY K [] [.int r] (c_X8_crash l D a2 cy K.2.2.2.2.2.2.2 N  _ h2) (lw_goodV wl_L_31 wi_X8_crash ws_X8_crash wn_X8 wc_X8_crash) ⟨rfl, rfl⟩ hv_X8_crash ⟨Nat.le_of_ble_eq_true rfl, Nat.le_of_ble_eq_true rfl⟩ hPX hPY hS rfl hl.1 rfl (Nat.le_of_ble_eq_true rfl) dL_law_254 (fun H locs hPX hPY hS => ?_)
  refine lv_icmp_eq (tgt := 736) hx hb dL_law_257 (by decide) (fun _ => ?_) (fun h => absurd rfl h)
  exact kback X1 Y1 d0 H locs ls hd0 hI1 hPX hPY hS (lv_sub hl [0, 1, 2, 3] rfl)
set_option maxHeartbeats 4000000 in
set_option maxRecDepth 100000 in
theorem law_tick (l : Launch) {p : Program} {e : Env} {s : State} {m : MethodId} {below : List Frame} {meth : Method} {c : Code} {b L : Nat} {xs : Nat → Int32} {D : va_G} {a a2 : Nat → Nat} {cy : Nat → ClassId} (hL : L ≤ 2048) (K : lw_K p s m meth c b L xs D a a2 cy) {N : Nat} {Inv : Nat → XT → XT → Prop} (hst : m_Step N Inv) (j : Nat) (hj : 4 * j + 4 ≤ L) (vi : Int32) (hvi : vi = nI (4 * j)) (X Y : XT) (hI : Inv j X Y) (d0 : Drawn) (hd0 : s.drawn.sameBut d0 lw_cs) (H : Heap) (locs : List Loc) (ls : Array Slot) (hPX : va_P D vwCl (m_WC a cy X) H) (hPY : va_P D vwCl (m_WM a2 cy Y) H) (hS : va_S (lw_A0 s) s.heap H locs) (hl : lv_has ls 8 [(0, .ref b), (1, .ref (a 126)), (2, .ref (a2 0)), (3, .int vi)]) (kback : ∀ (X1 Y1 : XT) (d1 : Drawn) (H1 : Heap) (locs1 : List Loc) (ls1 : Array Slot), s.drawn.sameBut d1 lw_cs → Inv (j + 1) X1 Y1 → va_P D vwCl (m_WC a cy X1) H1 → va_P D vwCl (m_WM a2 cy Y1) H1 → va_S (lw_A0 s) s.heap H1 locs1 → lv_has ls1 8 [(0, .ref b), (1, .ref (a 126)), (2, .ref (a2 0)), (3, .int vi)] → W p l e room_1 (s.setDrawn d1) m #[Value.ref b] below meth c H1 locs1 600000 7302250 (lw_Z below #[Value.ref b] s) (F0 m 736 ls1 [])) : W p l e room_1 (s.setDrawn d0) m #[Value.ref b] below meth c H locs 600000 7302250 (lw_Z below #[Value.ref b] s) (F0 m 262 ls []) := by
  have hx := K.1.1
  have hb := K.1.2.1
  have hX := K.1.2.2.2.2.2.2.1
  have hbl := K.1.2.2.2.2.2.2.2.1
  have hbA : ¬ lw_A0 s b := Nat.not_le.mpr hbl
  refine lv_aload_n hx hb dL_law_262 rfl (lv_at hl 1 rfl) ?_
  refine lv_aload_n hx hb dL_law_263 rfl (lv_at hl 0 rfl) ?_
  refine lv_iload_n hx hb dL_law_264 rfl (lv_at hl 3 rfl) ?_
  refine lv_iconst (v := 1) hx hb dL_law_265 (by decide) ?_
  refine lv_iadd hx hb dL_law_266 ?_
  refine va_sld hx hb (lw_Xd hX) hbl hbA hS (lw_ix1 hL hj hvi) dL_law_267 ?_
  obtain ⟨r, X1, Y1, h1, h2, hI1⟩ := hst.2.2.2.2.1 j X Y (by omega) hI (xs (Int32.toNatClampNeg (vi + 1)))
  refine lw_callX K [.int (xs (Int32.toNatClampNeg (vi + 1)))] [] (c_X7_tick l D a cy K.2.2.2.2.2.2.1 N _ _ h1) (lw_goodV wl_L_32 wi_X7_tick ws_X7_tick wn_X7 wc_X7_tick) ⟨rfl, rfl⟩ hv_X7_tick ⟨Nat.le_of_ble_eq_true rfl, Nat.le_of_ble_eq_true rfl⟩ hPX hPY hS rfl hl.1 rfl (Nat.le_of_ble_eq_true rfl) dL_law_268 (fun H locs hPX hPY hS => ?_)
  refine lv_aload_n hx hb dL_law_271 rfl (lv_at hl 2 rfl) ?_
  refine lv_aload_n hx hb dL_law_272 rfl (lv_at hl 0 rfl) ?_
  refine lv_iload_n hx hb dL_law_273 rfl (lv_at hl 3 rfl) ?_
  refine lv_iconst (v := 1) hx hb dL_law_274 (by decide) ?_
  refine lv_iadd hx hb dL_law_275 ?_
  refine va_sld hx hb (lw_Xd hX) hbl hbA hS (lw_ix1 hL hj hvi) dL_law_276 ?_
  refine lw_callY K [.int (xs (Int32.toNatClampNeg (vi + 1)))] [.int r] (c_X8_tick l D a2 cy K.2.2.2.2.2.2.2 N _ _ h2) (lw_goodV wl_L_35 wi_X8_tick ws_X8_tick wn_X8 wc_X8_tick) ⟨rfl, rfl⟩ hv_X8_tick ⟨Nat.le_of_ble_eq_true rfl, Nat.le_of_ble_eq_true rfl⟩ hPX hPY hS rfl hl.1 rfl (Nat.le_of_ble_eq_true rfl) dL_law_277 (fun H locs hPX hPY hS => ?_)
  refine lv_icmp_eq (tgt := 736) hx hb dL_law_280 (by decide) (fun _ => ?_) (fun h => absurd rfl h)
  exact kback X1 Y1 d0 H locs ls hd0 hI1 hPX hPY hS (lv_sub hl [0, 1, 2, 3] rfl)
set_option maxHeartbeats 4000000 in
set_option maxRecDepth 100000 in
theorem law_set (l : Launch) {p : Program} {e : Env} {s : State} {m : MethodId} {below : List Frame} {meth : Method} {c : Code} {b L : Nat} {xs : Nat → Int32} {D : va_G} {a a2 : Nat → Nat} {cy : Nat → ClassId} (hL : L ≤ 2048) (K : lw_K p s m meth c b L xs D a a2 cy) {N : Nat} {Inv : Nat → XT → XT → Prop} (hst : m_Step N Inv) (j : Nat) (hj : 4 * j + 4 ≤ L) (vi : Int32) (hvi : vi = nI (4 * j)) (X Y : XT) (hI : Inv j X Y) (d0 : Drawn) (hd0 : s.drawn.sameBut d0 lw_cs) (H : Heap) (locs : List Loc) (ls : Array Slot) (hPX : va_P D vwCl (m_WC a cy X) H) (hPY : va_P D vwCl (m_WM a2 cy Y) H) (hS : va_S (lw_A0 s) s.heap H locs) (hl : lv_has ls 8 [(0, .ref b), (1, .ref (a 126)), (2, .ref (a2 0)), (3, .int vi)]) (kback : ∀ (X1 Y1 : XT) (d1 : Drawn) (H1 : Heap) (locs1 : List Loc) (ls1 : Array Slot), s.drawn.sameBut d1 lw_cs → Inv (j + 1) X1 Y1 → va_P D vwCl (m_WC a cy X1) H1 → va_P D vwCl (m_WM a2 cy Y1) H1 → va_S (lw_A0 s) s.heap H1 locs1 → lv_has ls1 8 [(0, .ref b), (1, .ref (a 126)), (2, .ref (a2 0)), (3, .int vi)] → W p l e room_1 (s.setDrawn d1) m #[Value.ref b] below meth c H1 locs1 600000 7302250 (lw_Z below #[Value.ref b] s) (F0 m 736 ls1 [])) : W p l e room_1 (s.setDrawn d0) m #[Value.ref b] below meth c H locs 600000 7302250 (lw_Z below #[Value.ref b] s) (F0 m 285 ls []) := by
  have hx := K.1.1
  have hb := K.1.2.1
  have hX := K.1.2.2.2.2.2.2.1
  have hbl := K.1.2.2.2.2.2.2.2.1
  have hbA : ¬ lw_A0 s b := Nat.not_le.mpr hbl
  refine lv_aload_n hx hb dL_law_285 rfl (lv_at hl 1 rfl) ?_
  refine lv_aload_n hx hb dL_law_286 rfl (lv_at hl 0 rfl) ?_
  refine lv_iload_n hx hb dL_law_287 rfl (lv_at hl 3 rfl) ?_
  refine lv_iconst (v := 1) hx hb dL_law_288 (by decide) ?_
  refine lv_iadd hx hb dL_law_289 ?_
  refine va_sld hx hb (lw_Xd hX) hbl hbA hS (lw_ix1 hL hj hvi) dL_law_290 ?_
  refine lv_aload_n hx hb dL_law_291 rfl (lv_at hl 0 rfl) ?_
  refine lv_iload_n hx hb dL_law_292 rfl (lv_at hl 3 rfl) ?_
  refine lv_iconst (v := 2) hx hb dL_law_293 (by decide) ?_
  refine lv_iadd hx hb dL_law_294 ?_
  refine va_sld hx hb (lw_Xd hX) hbl hbA hS (lw_ix2 hL hj hvi) dL_law_295 ?_
  obtain ⟨r, X1, Y1, h1, h2, hI1⟩ := hst.2.2.2.2.2.1 j X Y (by omega) hI (xs (Int32.toNatClampNeg (vi + 1))) (xs (Int32.toNatClampNeg (vi + 2)))
  refine lw_callX K [.int (xs (Int32.toNatClampNeg (vi + 1))), .int (xs (Int32.toNatClampNeg (vi + 2)))] [] (c_X7_set l D a cy K.2.2.2.2.2.2.1 N _ _ _ h1) (lw_goodV wl_L_36 wi_X7_set ws_X7_set wn_X7 wc_X7_set) ⟨rfl, rfl⟩ hv_X7_set ⟨Nat.le_of_ble_eq_true rfl, Nat.le_of_ble_eq_true rfl⟩ hPX hPY hS rfl hl.1 rfl (Nat.le_of_ble_eq_true rfl) dL_law_296 (fun H locs hPX hPY hS => ?_)
  refine lv_aload_n hx hb dL_law_299 rfl (lv_at hl 2 rfl) ?_
  refine lv_aload_n hx hb dL_law_300 rfl (lv_at hl 0 rfl) ?_
  refine lv_iload_n hx hb dL_law_301 rfl (lv_at hl 3 rfl) ?_
  refine lv_iconst (v := 1) hx hb dL_law_302 (by decide) ?_
  refine lv_iadd hx hb dL_law_303 ?_
  refine va_sld hx hb (lw_Xd hX) hbl hbA hS (lw_ix1 hL hj hvi) dL_law_304 ?_
  refine lv_aload_n hx hb dL_law_305 rfl (lv_at hl 0 rfl) ?_
  refine lv_iload_n hx hb dL_law_306 rfl (lv_at hl 3 rfl) ?_
  refine lv_iconst (v := 2) hx hb dL_law_307 (by decide) ?_
  refine lv_iadd hx hb dL_law_308 ?_
  refine va_sld hx hb (lw_Xd hX) hbl hbA hS (lw_ix2 hL hj hvi) dL_law_309 ?_
  refine lw_callY K [.int (xs (Int32.toNatClampNeg (vi + 1))), .int (xs (Int32.toNatClampNeg (vi + 2)))] [.int r] (c_X8_set l D a2 cy K.2.2.2.2.2.2.2 N _ _ _ h2) (lw_goodV wl_L_40 wi_X8_set ws_X8_set wn_X8 wc_X8_set) ⟨rfl, rfl⟩ hv_X8_set ⟨Nat.le_of_ble_eq_true rfl, Nat.le_of_ble_eq_true rfl⟩ hPX hPY hS rfl hl.1 rfl (Nat.le_of_ble_eq_true rfl) dL_law_310 (fun H locs hPX hPY hS => ?_)
  refine lv_icmp_eq (tgt := 736) hx hb dL_law_313 (by decide) (fun _ => ?_) (fun h => absurd rfl h)
  exact kback X1 Y1 d0 H locs ls hd0 hI1 hPX hPY hS (lv_sub hl [0, 1, 2, 3] rfl)
set_option maxHeartbeats 4000000 in
set_option maxRecDepth 100000 in
theorem law_append (l : Launch) {p : Program} {e : Env} {s : State} {m : MethodId} {below : List Frame} {meth : Method} {c : Code} {b L : Nat} {xs : Nat → Int32} {D : va_G} {a a2 : Nat → Nat} {cy : Nat → ClassId} (hL : L ≤ 2048) (K : lw_K p s m meth c b L xs D a a2 cy) {N : Nat} {Inv : Nat → XT → XT → Prop} (hst : m_Step N Inv) (j : Nat) (hj : 4 * j + 4 ≤ L) (vi : Int32) (hvi : vi = nI (4 * j)) (X Y : XT) (hI : Inv j X Y) (d0 : Drawn) (hd0 : s.drawn.sameBut d0 lw_cs) (H : Heap) (locs : List Loc) (ls : Array Slot) (hPX : va_P D vwCl (m_WC a cy X) H) (hPY : va_P D vwCl (m_WM a2 cy Y) H) (hS : va_S (lw_A0 s) s.heap H locs) (hl : lv_has ls 8 [(0, .ref b), (1, .ref (a 126)), (2, .ref (a2 0)), (3, .int vi)]) (kback : ∀ (X1 Y1 : XT) (d1 : Drawn) (H1 : Heap) (locs1 : List Loc) (ls1 : Array Slot), s.drawn.sameBut d1 lw_cs → Inv (j + 1) X1 Y1 → va_P D vwCl (m_WC a cy X1) H1 → va_P D vwCl (m_WM a2 cy Y1) H1 → va_S (lw_A0 s) s.heap H1 locs1 → lv_has ls1 8 [(0, .ref b), (1, .ref (a 126)), (2, .ref (a2 0)), (3, .int vi)] → W p l e room_1 (s.setDrawn d1) m #[Value.ref b] below meth c H1 locs1 600000 7302250 (lw_Z below #[Value.ref b] s) (F0 m 736 ls1 [])) : W p l e room_1 (s.setDrawn d0) m #[Value.ref b] below meth c H locs 600000 7302250 (lw_Z below #[Value.ref b] s) (F0 m 318 ls []) := by
  have hx := K.1.1
  have hb := K.1.2.1
  have hX := K.1.2.2.2.2.2.2.1
  have hbl := K.1.2.2.2.2.2.2.2.1
  have hbA : ¬ lw_A0 s b := Nat.not_le.mpr hbl
  refine lv_aload_n hx hb dL_law_318 rfl (lv_at hl 1 rfl) ?_
  refine lv_aload_n hx hb dL_law_319 rfl (lv_at hl 0 rfl) ?_
  refine lv_iload_n hx hb dL_law_320 rfl (lv_at hl 3 rfl) ?_
  refine lv_iconst (v := 1) hx hb dL_law_321 (by decide) ?_
  refine lv_iadd hx hb dL_law_322 ?_
  refine va_sld hx hb (lw_Xd hX) hbl hbA hS (lw_ix1 hL hj hvi) dL_law_323 ?_
  obtain ⟨r, X1, Y1, h1, h2, hI1⟩ := hst.2.2.2.2.2.2.1 j X Y (by omega) hI (xs (Int32.toNatClampNeg (vi + 1)))
  refine lw_callX K [.int (xs (Int32.toNatClampNeg (vi + 1)))] [] (c_X7_append l D a cy K.2.2.2.2.2.2.1 N _ _ h1) (lw_goodV wl_L_41 wi_X7_append ws_X7_append wn_X7 wc_X7_append) ⟨rfl, rfl⟩ hv_X7_append ⟨Nat.le_of_ble_eq_true rfl, Nat.le_of_ble_eq_true rfl⟩ hPX hPY hS rfl hl.1 rfl (Nat.le_of_ble_eq_true rfl) dL_law_324 (fun H locs hPX hPY hS => ?_)
  refine lv_aload_n hx hb dL_law_327 rfl (lv_at hl 2 rfl) ?_
  refine lv_aload_n hx hb dL_law_328 rfl (lv_at hl 0 rfl) ?_
  refine lv_iload_n hx hb dL_law_329 rfl (lv_at hl 3 rfl) ?_
  refine lv_iconst (v := 1) hx hb dL_law_330 (by decide) ?_
  refine lv_iadd hx hb dL_law_331 ?_
  refine va_sld hx hb (lw_Xd hX) hbl hbA hS (lw_ix1 hL hj hvi) dL_law_332 ?_
  refine lw_callY K [.int (xs (Int32.toNatClampNeg (vi + 1)))] [.int r] (c_X8_append l D a2 cy K.2.2.2.2.2.2.2 N _ _ h2) (lw_goodV wl_L_44 wi_X8_append ws_X8_append wn_X8 wc_X8_append) ⟨rfl, rfl⟩ hv_X8_append ⟨Nat.le_of_ble_eq_true rfl, Nat.le_of_ble_eq_true rfl⟩ hPX hPY hS rfl hl.1 rfl (Nat.le_of_ble_eq_true rfl) dL_law_333 (fun H locs hPX hPY hS => ?_)
  refine lv_icmp_eq (tgt := 736) hx hb dL_law_336 (by decide) (fun _ => ?_) (fun h => absurd rfl h)
  exact kback X1 Y1 d0 H locs ls hd0 hI1 hPX hPY hS (lv_sub hl [0, 1, 2, 3] rfl)
set_option maxHeartbeats 4000000 in
set_option maxRecDepth 100000 in
theorem law_clearText (l : Launch) {p : Program} {e : Env} {s : State} {m : MethodId} {below : List Frame} {meth : Method} {c : Code} {b L : Nat} {xs : Nat → Int32} {D : va_G} {a a2 : Nat → Nat} {cy : Nat → ClassId} (hL : L ≤ 2048) (K : lw_K p s m meth c b L xs D a a2 cy) {N : Nat} {Inv : Nat → XT → XT → Prop} (hst : m_Step N Inv) (j : Nat) (hj : 4 * j + 4 ≤ L) (vi : Int32) (hvi : vi = nI (4 * j)) (X Y : XT) (hI : Inv j X Y) (d0 : Drawn) (hd0 : s.drawn.sameBut d0 lw_cs) (H : Heap) (locs : List Loc) (ls : Array Slot) (hPX : va_P D vwCl (m_WC a cy X) H) (hPY : va_P D vwCl (m_WM a2 cy Y) H) (hS : va_S (lw_A0 s) s.heap H locs) (hl : lv_has ls 8 [(0, .ref b), (1, .ref (a 126)), (2, .ref (a2 0)), (3, .int vi)]) (kback : ∀ (X1 Y1 : XT) (d1 : Drawn) (H1 : Heap) (locs1 : List Loc) (ls1 : Array Slot), s.drawn.sameBut d1 lw_cs → Inv (j + 1) X1 Y1 → va_P D vwCl (m_WC a cy X1) H1 → va_P D vwCl (m_WM a2 cy Y1) H1 → va_S (lw_A0 s) s.heap H1 locs1 → lv_has ls1 8 [(0, .ref b), (1, .ref (a 126)), (2, .ref (a2 0)), (3, .int vi)] → W p l e room_1 (s.setDrawn d1) m #[Value.ref b] below meth c H1 locs1 600000 7302250 (lw_Z below #[Value.ref b] s) (F0 m 736 ls1 [])) : W p l e room_1 (s.setDrawn d0) m #[Value.ref b] below meth c H locs 600000 7302250 (lw_Z below #[Value.ref b] s) (F0 m 341 ls []) := by
  have hx := K.1.1
  have hb := K.1.2.1
  have hX := K.1.2.2.2.2.2.2.1
  have hbl := K.1.2.2.2.2.2.2.2.1
  have hbA : ¬ lw_A0 s b := Nat.not_le.mpr hbl
  refine lv_aload_n hx hb dL_law_341 rfl (lv_at hl 1 rfl) ?_
  obtain ⟨r, X1, Y1, h1, h2, hI1⟩ := hst.2.2.2.2.2.2.2.1 j X Y (by omega) hI 
  refine lw_callX K [] [] (c_X7_clearText l D a cy K.2.2.2.2.2.2.1 N  _ h1) (lw_goodV wl_L_45 wi_X7_clearText ws_X7_clearText wn_X7 wc_X7_clearText) ⟨rfl, rfl⟩ hv_X7_clearText ⟨Nat.le_of_ble_eq_true rfl, Nat.le_of_ble_eq_true rfl⟩ hPX hPY hS rfl hl.1 rfl (Nat.le_of_ble_eq_true rfl) dL_law_342 (fun H locs hPX hPY hS => ?_)
  refine lv_aload_n hx hb dL_law_345 rfl (lv_at hl 2 rfl) ?_
  refine lw_callY K [] [.int r] (c_X8_clearText l D a2 cy K.2.2.2.2.2.2.2 N  _ h2) (lw_goodV wl_L_48 wi_X8_clearText ws_X8_clearText wn_X8 wc_X8_clearText) ⟨rfl, rfl⟩ hv_X8_clearText ⟨Nat.le_of_ble_eq_true rfl, Nat.le_of_ble_eq_true rfl⟩ hPX hPY hS rfl hl.1 rfl (Nat.le_of_ble_eq_true rfl) dL_law_346 (fun H locs hPX hPY hS => ?_)
  refine lv_icmp_eq (tgt := 736) hx hb dL_law_349 (by decide) (fun _ => ?_) (fun h => absurd rfl h)
  exact kback X1 Y1 d0 H locs ls hd0 hI1 hPX hPY hS (lv_sub hl [0, 1, 2, 3] rfl)
set_option maxHeartbeats 4000000 in
set_option maxRecDepth 100000 in
theorem law_fault (l : Launch) {p : Program} {e : Env} {s : State} {m : MethodId} {below : List Frame} {meth : Method} {c : Code} {b L : Nat} {xs : Nat → Int32} {D : va_G} {a a2 : Nat → Nat} {cy : Nat → ClassId} (hL : L ≤ 2048) (K : lw_K p s m meth c b L xs D a a2 cy) {N : Nat} {Inv : Nat → XT → XT → Prop} (hst : m_Step N Inv) (j : Nat) (hj : 4 * j + 4 ≤ L) (vi : Int32) (hvi : vi = nI (4 * j)) (X Y : XT) (hI : Inv j X Y) (d0 : Drawn) (hd0 : s.drawn.sameBut d0 lw_cs) (H : Heap) (locs : List Loc) (ls : Array Slot) (hPX : va_P D vwCl (m_WC a cy X) H) (hPY : va_P D vwCl (m_WM a2 cy Y) H) (hS : va_S (lw_A0 s) s.heap H locs) (hl : lv_has ls 8 [(0, .ref b), (1, .ref (a 126)), (2, .ref (a2 0)), (3, .int vi)]) (kback : ∀ (X1 Y1 : XT) (d1 : Drawn) (H1 : Heap) (locs1 : List Loc) (ls1 : Array Slot), s.drawn.sameBut d1 lw_cs → Inv (j + 1) X1 Y1 → va_P D vwCl (m_WC a cy X1) H1 → va_P D vwCl (m_WM a2 cy Y1) H1 → va_S (lw_A0 s) s.heap H1 locs1 → lv_has ls1 8 [(0, .ref b), (1, .ref (a 126)), (2, .ref (a2 0)), (3, .int vi)] → W p l e room_1 (s.setDrawn d1) m #[Value.ref b] below meth c H1 locs1 600000 7302250 (lw_Z below #[Value.ref b] s) (F0 m 736 ls1 [])) : W p l e room_1 (s.setDrawn d0) m #[Value.ref b] below meth c H locs 600000 7302250 (lw_Z below #[Value.ref b] s) (F0 m 354 ls []) := by
  have hx := K.1.1
  have hb := K.1.2.1
  have hX := K.1.2.2.2.2.2.2.1
  have hbl := K.1.2.2.2.2.2.2.2.1
  have hbA : ¬ lw_A0 s b := Nat.not_le.mpr hbl
  refine lv_aload_n hx hb dL_law_354 rfl (lv_at hl 1 rfl) ?_
  obtain ⟨r, X1, Y1, h1, h2, hI1⟩ := hst.2.2.2.2.2.2.2.2.1 j X Y (by omega) hI 
  refine lw_callX K [] [] (c_X7_fault l D a cy K.2.2.2.2.2.2.1 N  _ h1) (lw_goodV wl_L_49 wi_X7_fault ws_X7_fault wn_X7 wc_X7_fault) ⟨rfl, rfl⟩ hv_X7_fault ⟨Nat.le_of_ble_eq_true rfl, Nat.le_of_ble_eq_true rfl⟩ hPX hPY hS rfl hl.1 rfl (Nat.le_of_ble_eq_true rfl) dL_law_355 (fun H locs hPX hPY hS => ?_)
  refine lv_aload_n hx hb dL_law_358 rfl (lv_at hl 2 rfl) ?_
  refine lw_callY K [] [.int r] (c_X8_fault l D a2 cy K.2.2.2.2.2.2.2 N  _ h2) (lw_goodV wl_L_52 wi_X8_fault ws_X8_fault wn_X8 wc_X8_fault) ⟨rfl, rfl⟩ hv_X8_fault ⟨Nat.le_of_ble_eq_true rfl, Nat.le_of_ble_eq_true rfl⟩ hPX hPY hS rfl hl.1 rfl (Nat.le_of_ble_eq_true rfl) dL_law_359 (fun H locs hPX hPY hS => ?_)
  refine lv_icmp_eq (tgt := 736) hx hb dL_law_362 (by decide) (fun _ => ?_) (fun h => absurd rfl h)
  exact kback X1 Y1 d0 H locs ls hd0 hI1 hPX hPY hS (lv_sub hl [0, 1, 2, 3] rfl)
set_option maxHeartbeats 4000000 in
set_option maxRecDepth 100000 in
theorem law_run (l : Launch) {p : Program} {e : Env} {s : State} {m : MethodId} {below : List Frame} {meth : Method} {c : Code} {b L : Nat} {xs : Nat → Int32} {D : va_G} {a a2 : Nat → Nat} {cy : Nat → ClassId} (hL : L ≤ 2048) (K : lw_K p s m meth c b L xs D a a2 cy) {N : Nat} {Inv : Nat → XT → XT → Prop} (hst : m_Step N Inv) (j : Nat) (hj : 4 * j + 4 ≤ L) (vi : Int32) (hvi : vi = nI (4 * j)) (X Y : XT) (hI : Inv j X Y) (d0 : Drawn) (hd0 : s.drawn.sameBut d0 lw_cs) (H : Heap) (locs : List Loc) (ls : Array Slot) (hPX : va_P D vwCl (m_WC a cy X) H) (hPY : va_P D vwCl (m_WM a2 cy Y) H) (hS : va_S (lw_A0 s) s.heap H locs) (hl : lv_has ls 8 [(0, .ref b), (1, .ref (a 126)), (2, .ref (a2 0)), (3, .int vi)]) (kback : ∀ (X1 Y1 : XT) (d1 : Drawn) (H1 : Heap) (locs1 : List Loc) (ls1 : Array Slot), s.drawn.sameBut d1 lw_cs → Inv (j + 1) X1 Y1 → va_P D vwCl (m_WC a cy X1) H1 → va_P D vwCl (m_WM a2 cy Y1) H1 → va_S (lw_A0 s) s.heap H1 locs1 → lv_has ls1 8 [(0, .ref b), (1, .ref (a 126)), (2, .ref (a2 0)), (3, .int vi)] → W p l e room_1 (s.setDrawn d1) m #[Value.ref b] below meth c H1 locs1 600000 7302250 (lw_Z below #[Value.ref b] s) (F0 m 736 ls1 [])) : W p l e room_1 (s.setDrawn d0) m #[Value.ref b] below meth c H locs 600000 7302250 (lw_Z below #[Value.ref b] s) (F0 m 367 ls []) := by
  have hx := K.1.1
  have hb := K.1.2.1
  have hX := K.1.2.2.2.2.2.2.1
  have hbl := K.1.2.2.2.2.2.2.2.1
  have hbA : ¬ lw_A0 s b := Nat.not_le.mpr hbl
  refine lv_aload_n hx hb dL_law_367 rfl (lv_at hl 1 rfl) ?_
  obtain ⟨r, X1, Y1, h1, h2, hI1⟩ := hst.2.2.2.2.2.2.2.2.2.1 j X Y (by omega) hI 
  refine lw_callX K [] [] (c_X7_run l D a cy K.2.2.2.2.2.2.1 N  _ h1) (lw_goodV wl_L_53 wi_X7_run ws_X7_run wn_X7 wc_X7_run) ⟨rfl, rfl⟩ hv_X7_run ⟨Nat.le_of_ble_eq_true rfl, Nat.le_of_ble_eq_true rfl⟩ hPX hPY hS rfl hl.1 rfl (Nat.le_of_ble_eq_true rfl) dL_law_368 (fun H locs hPX hPY hS => ?_)
  refine lv_aload_n hx hb dL_law_371 rfl (lv_at hl 2 rfl) ?_
  refine lw_callY K [] [.int r] (c_X8_run l D a2 cy K.2.2.2.2.2.2.2 N  _ h2) (lw_goodV wl_L_56 wi_X8_run ws_X8_run wn_X8 wc_X8_run) ⟨rfl, rfl⟩ hv_X8_run ⟨Nat.le_of_ble_eq_true rfl, Nat.le_of_ble_eq_true rfl⟩ hPX hPY hS rfl hl.1 rfl (Nat.le_of_ble_eq_true rfl) dL_law_372 (fun H locs hPX hPY hS => ?_)
  refine lv_icmp_eq (tgt := 736) hx hb dL_law_375 (by decide) (fun _ => ?_) (fun h => absurd rfl h)
  exact kback X1 Y1 d0 H locs ls hd0 hI1 hPX hPY hS (lv_sub hl [0, 1, 2, 3] rfl)
set_option maxHeartbeats 4000000 in
set_option maxRecDepth 100000 in
theorem law_undo (l : Launch) {p : Program} {e : Env} {s : State} {m : MethodId} {below : List Frame} {meth : Method} {c : Code} {b L : Nat} {xs : Nat → Int32} {D : va_G} {a a2 : Nat → Nat} {cy : Nat → ClassId} (hL : L ≤ 2048) (K : lw_K p s m meth c b L xs D a a2 cy) {N : Nat} {Inv : Nat → XT → XT → Prop} (hst : m_Step N Inv) (j : Nat) (hj : 4 * j + 4 ≤ L) (vi : Int32) (hvi : vi = nI (4 * j)) (X Y : XT) (hI : Inv j X Y) (d0 : Drawn) (hd0 : s.drawn.sameBut d0 lw_cs) (H : Heap) (locs : List Loc) (ls : Array Slot) (hPX : va_P D vwCl (m_WC a cy X) H) (hPY : va_P D vwCl (m_WM a2 cy Y) H) (hS : va_S (lw_A0 s) s.heap H locs) (hl : lv_has ls 8 [(0, .ref b), (1, .ref (a 126)), (2, .ref (a2 0)), (3, .int vi)]) (kback : ∀ (X1 Y1 : XT) (d1 : Drawn) (H1 : Heap) (locs1 : List Loc) (ls1 : Array Slot), s.drawn.sameBut d1 lw_cs → Inv (j + 1) X1 Y1 → va_P D vwCl (m_WC a cy X1) H1 → va_P D vwCl (m_WM a2 cy Y1) H1 → va_S (lw_A0 s) s.heap H1 locs1 → lv_has ls1 8 [(0, .ref b), (1, .ref (a 126)), (2, .ref (a2 0)), (3, .int vi)] → W p l e room_1 (s.setDrawn d1) m #[Value.ref b] below meth c H1 locs1 600000 7302250 (lw_Z below #[Value.ref b] s) (F0 m 736 ls1 [])) : W p l e room_1 (s.setDrawn d0) m #[Value.ref b] below meth c H locs 600000 7302250 (lw_Z below #[Value.ref b] s) (F0 m 380 ls []) := by
  have hx := K.1.1
  have hb := K.1.2.1
  have hX := K.1.2.2.2.2.2.2.1
  have hbl := K.1.2.2.2.2.2.2.2.1
  have hbA : ¬ lw_A0 s b := Nat.not_le.mpr hbl
  refine lv_aload_n hx hb dL_law_380 rfl (lv_at hl 1 rfl) ?_
  obtain ⟨r, X1, Y1, h1, h2, hI1⟩ := hst.2.2.2.2.2.2.2.2.2.2.1 j X Y (by omega) hI 
  refine lw_callX K [] [] (c_X7_undo l D a cy K.2.2.2.2.2.2.1 N  _ h1) (lw_goodV wl_L_57 wi_X7_undo ws_X7_undo wn_X7 wc_X7_undo) ⟨rfl, rfl⟩ hv_X7_undo ⟨Nat.le_of_ble_eq_true rfl, Nat.le_of_ble_eq_true rfl⟩ hPX hPY hS rfl hl.1 rfl (Nat.le_of_ble_eq_true rfl) dL_law_381 (fun H locs hPX hPY hS => ?_)
  refine lv_aload_n hx hb dL_law_384 rfl (lv_at hl 2 rfl) ?_
  refine lw_callY K [] [.int r] (c_X8_undo l D a2 cy K.2.2.2.2.2.2.2 N  _ h2) (lw_goodV wl_L_60 wi_X8_undo ws_X8_undo wn_X8 wc_X8_undo) ⟨rfl, rfl⟩ hv_X8_undo ⟨Nat.le_of_ble_eq_true rfl, Nat.le_of_ble_eq_true rfl⟩ hPX hPY hS rfl hl.1 rfl (Nat.le_of_ble_eq_true rfl) dL_law_385 (fun H locs hPX hPY hS => ?_)
  refine lv_icmp_eq (tgt := 736) hx hb dL_law_388 (by decide) (fun _ => ?_) (fun h => absurd rfl h)
  exact kback X1 Y1 d0 H locs ls hd0 hI1 hPX hPY hS (lv_sub hl [0, 1, 2, 3] rfl)
set_option maxHeartbeats 4000000 in
set_option maxRecDepth 100000 in
theorem law_save (l : Launch) {p : Program} {e : Env} {s : State} {m : MethodId} {below : List Frame} {meth : Method} {c : Code} {b L : Nat} {xs : Nat → Int32} {D : va_G} {a a2 : Nat → Nat} {cy : Nat → ClassId} (hL : L ≤ 2048) (K : lw_K p s m meth c b L xs D a a2 cy) {N : Nat} {Inv : Nat → XT → XT → Prop} (hst : m_Step N Inv) (j : Nat) (hj : 4 * j + 4 ≤ L) (vi : Int32) (hvi : vi = nI (4 * j)) (X Y : XT) (hI : Inv j X Y) (d0 : Drawn) (hd0 : s.drawn.sameBut d0 lw_cs) (H : Heap) (locs : List Loc) (ls : Array Slot) (hPX : va_P D vwCl (m_WC a cy X) H) (hPY : va_P D vwCl (m_WM a2 cy Y) H) (hS : va_S (lw_A0 s) s.heap H locs) (hl : lv_has ls 8 [(0, .ref b), (1, .ref (a 126)), (2, .ref (a2 0)), (3, .int vi)]) (kback : ∀ (X1 Y1 : XT) (d1 : Drawn) (H1 : Heap) (locs1 : List Loc) (ls1 : Array Slot), s.drawn.sameBut d1 lw_cs → Inv (j + 1) X1 Y1 → va_P D vwCl (m_WC a cy X1) H1 → va_P D vwCl (m_WM a2 cy Y1) H1 → va_S (lw_A0 s) s.heap H1 locs1 → lv_has ls1 8 [(0, .ref b), (1, .ref (a 126)), (2, .ref (a2 0)), (3, .int vi)] → W p l e room_1 (s.setDrawn d1) m #[Value.ref b] below meth c H1 locs1 600000 7302250 (lw_Z below #[Value.ref b] s) (F0 m 736 ls1 [])) : W p l e room_1 (s.setDrawn d0) m #[Value.ref b] below meth c H locs 600000 7302250 (lw_Z below #[Value.ref b] s) (F0 m 393 ls []) := by
  have hx := K.1.1
  have hb := K.1.2.1
  have hX := K.1.2.2.2.2.2.2.1
  have hbl := K.1.2.2.2.2.2.2.2.1
  have hbA : ¬ lw_A0 s b := Nat.not_le.mpr hbl
  refine lv_aload_n hx hb dL_law_393 rfl (lv_at hl 1 rfl) ?_
  obtain ⟨r, X1, Y1, h1, h2, hI1⟩ := hst.2.2.2.2.2.2.2.2.2.2.2.1 j X Y (by omega) hI 
  refine lw_callX K [] [] (c_X7_save l D a cy K.2.2.2.2.2.2.1 N  _ h1) (lw_goodV wl_L_61 wi_X7_save ws_X7_save wn_X7 wc_X7_save) ⟨rfl, rfl⟩ hv_X7_save ⟨Nat.le_of_ble_eq_true rfl, Nat.le_of_ble_eq_true rfl⟩ hPX hPY hS rfl hl.1 rfl (Nat.le_of_ble_eq_true rfl) dL_law_394 (fun H locs hPX hPY hS => ?_)
  refine lv_aload_n hx hb dL_law_397 rfl (lv_at hl 2 rfl) ?_
  refine lw_callY K [] [.int r] (c_X8_save l D a2 cy K.2.2.2.2.2.2.2 N  _ h2) (lw_goodV wl_L_64 wi_X8_save ws_X8_save wn_X8 wc_X8_save) ⟨rfl, rfl⟩ hv_X8_save ⟨Nat.le_of_ble_eq_true rfl, Nat.le_of_ble_eq_true rfl⟩ hPX hPY hS rfl hl.1 rfl (Nat.le_of_ble_eq_true rfl) dL_law_398 (fun H locs hPX hPY hS => ?_)
  refine lv_icmp_eq (tgt := 736) hx hb dL_law_401 (by decide) (fun _ => ?_) (fun h => absurd rfl h)
  exact kback X1 Y1 d0 H locs ls hd0 hI1 hPX hPY hS (lv_sub hl [0, 1, 2, 3] rfl)
set_option maxHeartbeats 4000000 in
set_option maxRecDepth 100000 in
theorem law_restore (l : Launch) {p : Program} {e : Env} {s : State} {m : MethodId} {below : List Frame} {meth : Method} {c : Code} {b L : Nat} {xs : Nat → Int32} {D : va_G} {a a2 : Nat → Nat} {cy : Nat → ClassId} (hL : L ≤ 2048) (K : lw_K p s m meth c b L xs D a a2 cy) {N : Nat} {Inv : Nat → XT → XT → Prop} (hst : m_Step N Inv) (j : Nat) (hj : 4 * j + 4 ≤ L) (vi : Int32) (hvi : vi = nI (4 * j)) (X Y : XT) (hI : Inv j X Y) (d0 : Drawn) (hd0 : s.drawn.sameBut d0 lw_cs) (H : Heap) (locs : List Loc) (ls : Array Slot) (hPX : va_P D vwCl (m_WC a cy X) H) (hPY : va_P D vwCl (m_WM a2 cy Y) H) (hS : va_S (lw_A0 s) s.heap H locs) (hl : lv_has ls 8 [(0, .ref b), (1, .ref (a 126)), (2, .ref (a2 0)), (3, .int vi)]) (kback : ∀ (X1 Y1 : XT) (d1 : Drawn) (H1 : Heap) (locs1 : List Loc) (ls1 : Array Slot), s.drawn.sameBut d1 lw_cs → Inv (j + 1) X1 Y1 → va_P D vwCl (m_WC a cy X1) H1 → va_P D vwCl (m_WM a2 cy Y1) H1 → va_S (lw_A0 s) s.heap H1 locs1 → lv_has ls1 8 [(0, .ref b), (1, .ref (a 126)), (2, .ref (a2 0)), (3, .int vi)] → W p l e room_1 (s.setDrawn d1) m #[Value.ref b] below meth c H1 locs1 600000 7302250 (lw_Z below #[Value.ref b] s) (F0 m 736 ls1 [])) : W p l e room_1 (s.setDrawn d0) m #[Value.ref b] below meth c H locs 600000 7302250 (lw_Z below #[Value.ref b] s) (F0 m 406 ls []) := by
  have hx := K.1.1
  have hb := K.1.2.1
  have hX := K.1.2.2.2.2.2.2.1
  have hbl := K.1.2.2.2.2.2.2.2.1
  have hbA : ¬ lw_A0 s b := Nat.not_le.mpr hbl
  refine lv_aload_n hx hb dL_law_406 rfl (lv_at hl 1 rfl) ?_
  obtain ⟨r, X1, Y1, h1, h2, hI1⟩ := hst.2.2.2.2.2.2.2.2.2.2.2.2.1 j X Y (by omega) hI 
  refine lw_callX K [] [] (c_X7_restore l D a cy K.2.2.2.2.2.2.1 N  _ h1) (lw_goodV wl_L_65 wi_X7_restore ws_X7_restore wn_X7 wc_X7_restore) ⟨rfl, rfl⟩ hv_X7_restore ⟨Nat.le_of_ble_eq_true rfl, Nat.le_of_ble_eq_true rfl⟩ hPX hPY hS rfl hl.1 rfl (Nat.le_of_ble_eq_true rfl) dL_law_407 (fun H locs hPX hPY hS => ?_)
  refine lv_aload_n hx hb dL_law_410 rfl (lv_at hl 2 rfl) ?_
  refine lw_callY K [] [.int r] (c_X8_restore l D a2 cy K.2.2.2.2.2.2.2 N  _ h2) (lw_goodV wl_L_68 wi_X8_restore ws_X8_restore wn_X8 wc_X8_restore) ⟨rfl, rfl⟩ hv_X8_restore ⟨Nat.le_of_ble_eq_true rfl, Nat.le_of_ble_eq_true rfl⟩ hPX hPY hS rfl hl.1 rfl (Nat.le_of_ble_eq_true rfl) dL_law_411 (fun H locs hPX hPY hS => ?_)
  refine lv_icmp_eq (tgt := 736) hx hb dL_law_414 (by decide) (fun _ => ?_) (fun h => absurd rfl h)
  exact kback X1 Y1 d0 H locs ls hd0 hI1 hPX hPY hS (lv_sub hl [0, 1, 2, 3] rfl)
set_option maxHeartbeats 4000000 in
set_option maxRecDepth 100000 in
theorem law_commit (l : Launch) {p : Program} {e : Env} {s : State} {m : MethodId} {below : List Frame} {meth : Method} {c : Code} {b L : Nat} {xs : Nat → Int32} {D : va_G} {a a2 : Nat → Nat} {cy : Nat → ClassId} (hL : L ≤ 2048) (K : lw_K p s m meth c b L xs D a a2 cy) {N : Nat} {Inv : Nat → XT → XT → Prop} (hst : m_Step N Inv) (j : Nat) (hj : 4 * j + 4 ≤ L) (vi : Int32) (hvi : vi = nI (4 * j)) (X Y : XT) (hI : Inv j X Y) (d0 : Drawn) (hd0 : s.drawn.sameBut d0 lw_cs) (H : Heap) (locs : List Loc) (ls : Array Slot) (hPX : va_P D vwCl (m_WC a cy X) H) (hPY : va_P D vwCl (m_WM a2 cy Y) H) (hS : va_S (lw_A0 s) s.heap H locs) (hl : lv_has ls 8 [(0, .ref b), (1, .ref (a 126)), (2, .ref (a2 0)), (3, .int vi)]) (kback : ∀ (X1 Y1 : XT) (d1 : Drawn) (H1 : Heap) (locs1 : List Loc) (ls1 : Array Slot), s.drawn.sameBut d1 lw_cs → Inv (j + 1) X1 Y1 → va_P D vwCl (m_WC a cy X1) H1 → va_P D vwCl (m_WM a2 cy Y1) H1 → va_S (lw_A0 s) s.heap H1 locs1 → lv_has ls1 8 [(0, .ref b), (1, .ref (a 126)), (2, .ref (a2 0)), (3, .int vi)] → W p l e room_1 (s.setDrawn d1) m #[Value.ref b] below meth c H1 locs1 600000 7302250 (lw_Z below #[Value.ref b] s) (F0 m 736 ls1 [])) : W p l e room_1 (s.setDrawn d0) m #[Value.ref b] below meth c H locs 600000 7302250 (lw_Z below #[Value.ref b] s) (F0 m 419 ls []) := by
  have hx := K.1.1
  have hb := K.1.2.1
  have hX := K.1.2.2.2.2.2.2.1
  have hbl := K.1.2.2.2.2.2.2.2.1
  have hbA : ¬ lw_A0 s b := Nat.not_le.mpr hbl
  refine lv_aload_n hx hb dL_law_419 rfl (lv_at hl 1 rfl) ?_
  refine lv_aload_n hx hb dL_law_420 rfl (lv_at hl 0 rfl) ?_
  refine lv_iload_n hx hb dL_law_421 rfl (lv_at hl 3 rfl) ?_
  refine lv_iconst (v := 1) hx hb dL_law_422 (by decide) ?_
  refine lv_iadd hx hb dL_law_423 ?_
  refine va_sld hx hb (lw_Xd hX) hbl hbA hS (lw_ix1 hL hj hvi) dL_law_424 ?_
  refine lv_aload_n hx hb dL_law_425 rfl (lv_at hl 0 rfl) ?_
  refine lv_iload_n hx hb dL_law_426 rfl (lv_at hl 3 rfl) ?_
  refine lv_iconst (v := 2) hx hb dL_law_427 (by decide) ?_
  refine lv_iadd hx hb dL_law_428 ?_
  refine va_sld hx hb (lw_Xd hX) hbl hbA hS (lw_ix2 hL hj hvi) dL_law_429 ?_
  obtain ⟨r, X1, Y1, h1, h2, hI1⟩ := hst.2.2.2.2.2.2.2.2.2.2.2.2.2.1 j X Y (by omega) hI (xs (Int32.toNatClampNeg (vi + 1))) (xs (Int32.toNatClampNeg (vi + 2)))
  refine lw_callX K [.int (xs (Int32.toNatClampNeg (vi + 1))), .int (xs (Int32.toNatClampNeg (vi + 2)))] [] (c_X7_commit l D a cy K.2.2.2.2.2.2.1 N _ _ _ h1) (lw_goodV wl_L_69 wi_X7_commit ws_X7_commit wn_X7 wc_X7_commit) ⟨rfl, rfl⟩ hv_X7_commit ⟨Nat.le_of_ble_eq_true rfl, Nat.le_of_ble_eq_true rfl⟩ hPX hPY hS rfl hl.1 rfl (Nat.le_of_ble_eq_true rfl) dL_law_430 (fun H locs hPX hPY hS => ?_)
  refine lv_aload_n hx hb dL_law_433 rfl (lv_at hl 2 rfl) ?_
  refine lv_aload_n hx hb dL_law_434 rfl (lv_at hl 0 rfl) ?_
  refine lv_iload_n hx hb dL_law_435 rfl (lv_at hl 3 rfl) ?_
  refine lv_iconst (v := 1) hx hb dL_law_436 (by decide) ?_
  refine lv_iadd hx hb dL_law_437 ?_
  refine va_sld hx hb (lw_Xd hX) hbl hbA hS (lw_ix1 hL hj hvi) dL_law_438 ?_
  refine lv_aload_n hx hb dL_law_439 rfl (lv_at hl 0 rfl) ?_
  refine lv_iload_n hx hb dL_law_440 rfl (lv_at hl 3 rfl) ?_
  refine lv_iconst (v := 2) hx hb dL_law_441 (by decide) ?_
  refine lv_iadd hx hb dL_law_442 ?_
  refine va_sld hx hb (lw_Xd hX) hbl hbA hS (lw_ix2 hL hj hvi) dL_law_443 ?_
  refine lw_callY K [.int (xs (Int32.toNatClampNeg (vi + 1))), .int (xs (Int32.toNatClampNeg (vi + 2)))] [.int r] (c_X8_commit l D a2 cy K.2.2.2.2.2.2.2 N _ _ _ h2) (lw_goodV wl_L_72 wi_X8_commit ws_X8_commit wn_X8 wc_X8_commit) ⟨rfl, rfl⟩ hv_X8_commit ⟨Nat.le_of_ble_eq_true rfl, Nat.le_of_ble_eq_true rfl⟩ hPX hPY hS rfl hl.1 rfl (Nat.le_of_ble_eq_true rfl) dL_law_444 (fun H locs hPX hPY hS => ?_)
  refine lv_icmp_eq (tgt := 736) hx hb dL_law_447 (by decide) (fun _ => ?_) (fun h => absurd rfl h)
  exact kback X1 Y1 d0 H locs ls hd0 hI1 hPX hPY hS (lv_sub hl [0, 1, 2, 3] rfl)
set_option maxHeartbeats 4000000 in
set_option maxRecDepth 100000 in
theorem law_group (l : Launch) {p : Program} {e : Env} {s : State} {m : MethodId} {below : List Frame} {meth : Method} {c : Code} {b L : Nat} {xs : Nat → Int32} {D : va_G} {a a2 : Nat → Nat} {cy : Nat → ClassId} (hL : L ≤ 2048) (K : lw_K p s m meth c b L xs D a a2 cy) {N : Nat} {Inv : Nat → XT → XT → Prop} (hst : m_Step N Inv) (j : Nat) (hj : 4 * j + 4 ≤ L) (vi : Int32) (hvi : vi = nI (4 * j)) (X Y : XT) (hI : Inv j X Y) (d0 : Drawn) (hd0 : s.drawn.sameBut d0 lw_cs) (H : Heap) (locs : List Loc) (ls : Array Slot) (hPX : va_P D vwCl (m_WC a cy X) H) (hPY : va_P D vwCl (m_WM a2 cy Y) H) (hS : va_S (lw_A0 s) s.heap H locs) (hl : lv_has ls 8 [(0, .ref b), (1, .ref (a 126)), (2, .ref (a2 0)), (3, .int vi)]) (kback : ∀ (X1 Y1 : XT) (d1 : Drawn) (H1 : Heap) (locs1 : List Loc) (ls1 : Array Slot), s.drawn.sameBut d1 lw_cs → Inv (j + 1) X1 Y1 → va_P D vwCl (m_WC a cy X1) H1 → va_P D vwCl (m_WM a2 cy Y1) H1 → va_S (lw_A0 s) s.heap H1 locs1 → lv_has ls1 8 [(0, .ref b), (1, .ref (a 126)), (2, .ref (a2 0)), (3, .int vi)] → W p l e room_1 (s.setDrawn d1) m #[Value.ref b] below meth c H1 locs1 600000 7302250 (lw_Z below #[Value.ref b] s) (F0 m 736 ls1 [])) : W p l e room_1 (s.setDrawn d0) m #[Value.ref b] below meth c H locs 600000 7302250 (lw_Z below #[Value.ref b] s) (F0 m 452 ls []) := by
  have hx := K.1.1
  have hb := K.1.2.1
  have hX := K.1.2.2.2.2.2.2.1
  have hbl := K.1.2.2.2.2.2.2.2.1
  have hbA : ¬ lw_A0 s b := Nat.not_le.mpr hbl
  refine lv_aload_n hx hb dL_law_452 rfl (lv_at hl 1 rfl) ?_
  refine lv_aload_n hx hb dL_law_453 rfl (lv_at hl 0 rfl) ?_
  refine lv_iload_n hx hb dL_law_454 rfl (lv_at hl 3 rfl) ?_
  refine lv_iconst (v := 1) hx hb dL_law_455 (by decide) ?_
  refine lv_iadd hx hb dL_law_456 ?_
  refine va_sld hx hb (lw_Xd hX) hbl hbA hS (lw_ix1 hL hj hvi) dL_law_457 ?_
  refine lv_aload_n hx hb dL_law_458 rfl (lv_at hl 0 rfl) ?_
  refine lv_iload_n hx hb dL_law_459 rfl (lv_at hl 3 rfl) ?_
  refine lv_iconst (v := 2) hx hb dL_law_460 (by decide) ?_
  refine lv_iadd hx hb dL_law_461 ?_
  refine va_sld hx hb (lw_Xd hX) hbl hbA hS (lw_ix2 hL hj hvi) dL_law_462 ?_
  obtain ⟨r, X1, Y1, h1, h2, hI1⟩ := hst.2.2.2.2.2.2.2.2.2.2.2.2.2.2.1 j X Y (by omega) hI (xs (Int32.toNatClampNeg (vi + 1))) (xs (Int32.toNatClampNeg (vi + 2)))
  refine lw_callX K [.int (xs (Int32.toNatClampNeg (vi + 1))), .int (xs (Int32.toNatClampNeg (vi + 2)))] [] (c_X7_group l D a cy K.2.2.2.2.2.2.1 N _ _ _ h1) (lw_goodV wl_L_73 wi_X7_group ws_X7_group wn_X7 wc_X7_group) ⟨rfl, rfl⟩ hv_X7_group ⟨Nat.le_of_ble_eq_true rfl, Nat.le_of_ble_eq_true rfl⟩ hPX hPY hS rfl hl.1 rfl (Nat.le_of_ble_eq_true rfl) dL_law_463 (fun H locs hPX hPY hS => ?_)
  refine lv_aload_n hx hb dL_law_466 rfl (lv_at hl 2 rfl) ?_
  refine lv_aload_n hx hb dL_law_467 rfl (lv_at hl 0 rfl) ?_
  refine lv_iload_n hx hb dL_law_468 rfl (lv_at hl 3 rfl) ?_
  refine lv_iconst (v := 1) hx hb dL_law_469 (by decide) ?_
  refine lv_iadd hx hb dL_law_470 ?_
  refine va_sld hx hb (lw_Xd hX) hbl hbA hS (lw_ix1 hL hj hvi) dL_law_471 ?_
  refine lv_aload_n hx hb dL_law_472 rfl (lv_at hl 0 rfl) ?_
  refine lv_iload_n hx hb dL_law_473 rfl (lv_at hl 3 rfl) ?_
  refine lv_iconst (v := 2) hx hb dL_law_474 (by decide) ?_
  refine lv_iadd hx hb dL_law_475 ?_
  refine va_sld hx hb (lw_Xd hX) hbl hbA hS (lw_ix2 hL hj hvi) dL_law_476 ?_
  refine lw_callY K [.int (xs (Int32.toNatClampNeg (vi + 1))), .int (xs (Int32.toNatClampNeg (vi + 2)))] [.int r] (c_X8_group l D a2 cy K.2.2.2.2.2.2.2 N _ _ _ h2) (lw_goodV wl_L_76 wi_X8_group ws_X8_group wn_X8 wc_X8_group) ⟨rfl, rfl⟩ hv_X8_group ⟨Nat.le_of_ble_eq_true rfl, Nat.le_of_ble_eq_true rfl⟩ hPX hPY hS rfl hl.1 rfl (Nat.le_of_ble_eq_true rfl) dL_law_477 (fun H locs hPX hPY hS => ?_)
  refine lv_icmp_eq (tgt := 736) hx hb dL_law_480 (by decide) (fun _ => ?_) (fun h => absurd rfl h)
  exact kback X1 Y1 d0 H locs ls hd0 hI1 hPX hPY hS (lv_sub hl [0, 1, 2, 3] rfl)
set_option maxHeartbeats 4000000 in
set_option maxRecDepth 100000 in
theorem law_member (l : Launch) {p : Program} {e : Env} {s : State} {m : MethodId} {below : List Frame} {meth : Method} {c : Code} {b L : Nat} {xs : Nat → Int32} {D : va_G} {a a2 : Nat → Nat} {cy : Nat → ClassId} (hL : L ≤ 2048) (K : lw_K p s m meth c b L xs D a a2 cy) {N : Nat} {Inv : Nat → XT → XT → Prop} (hst : m_Step N Inv) (j : Nat) (hj : 4 * j + 4 ≤ L) (vi : Int32) (hvi : vi = nI (4 * j)) (X Y : XT) (hI : Inv j X Y) (d0 : Drawn) (hd0 : s.drawn.sameBut d0 lw_cs) (H : Heap) (locs : List Loc) (ls : Array Slot) (hPX : va_P D vwCl (m_WC a cy X) H) (hPY : va_P D vwCl (m_WM a2 cy Y) H) (hS : va_S (lw_A0 s) s.heap H locs) (hl : lv_has ls 8 [(0, .ref b), (1, .ref (a 126)), (2, .ref (a2 0)), (3, .int vi)]) (kback : ∀ (X1 Y1 : XT) (d1 : Drawn) (H1 : Heap) (locs1 : List Loc) (ls1 : Array Slot), s.drawn.sameBut d1 lw_cs → Inv (j + 1) X1 Y1 → va_P D vwCl (m_WC a cy X1) H1 → va_P D vwCl (m_WM a2 cy Y1) H1 → va_S (lw_A0 s) s.heap H1 locs1 → lv_has ls1 8 [(0, .ref b), (1, .ref (a 126)), (2, .ref (a2 0)), (3, .int vi)] → W p l e room_1 (s.setDrawn d1) m #[Value.ref b] below meth c H1 locs1 600000 7302250 (lw_Z below #[Value.ref b] s) (F0 m 736 ls1 [])) : W p l e room_1 (s.setDrawn d0) m #[Value.ref b] below meth c H locs 600000 7302250 (lw_Z below #[Value.ref b] s) (F0 m 485 ls []) := by
  have hx := K.1.1
  have hb := K.1.2.1
  have hX := K.1.2.2.2.2.2.2.1
  have hbl := K.1.2.2.2.2.2.2.2.1
  have hbA : ¬ lw_A0 s b := Nat.not_le.mpr hbl
  refine lv_aload_n hx hb dL_law_485 rfl (lv_at hl 1 rfl) ?_
  refine lv_aload_n hx hb dL_law_486 rfl (lv_at hl 0 rfl) ?_
  refine lv_iload_n hx hb dL_law_487 rfl (lv_at hl 3 rfl) ?_
  refine lv_iconst (v := 1) hx hb dL_law_488 (by decide) ?_
  refine lv_iadd hx hb dL_law_489 ?_
  refine va_sld hx hb (lw_Xd hX) hbl hbA hS (lw_ix1 hL hj hvi) dL_law_490 ?_
  refine lv_aload_n hx hb dL_law_491 rfl (lv_at hl 0 rfl) ?_
  refine lv_iload_n hx hb dL_law_492 rfl (lv_at hl 3 rfl) ?_
  refine lv_iconst (v := 2) hx hb dL_law_493 (by decide) ?_
  refine lv_iadd hx hb dL_law_494 ?_
  refine va_sld hx hb (lw_Xd hX) hbl hbA hS (lw_ix2 hL hj hvi) dL_law_495 ?_
  obtain ⟨r, X1, Y1, h1, h2, hI1⟩ := hst.2.2.2.2.2.2.2.2.2.2.2.2.2.2.2.1 j X Y (by omega) hI (xs (Int32.toNatClampNeg (vi + 1))) (xs (Int32.toNatClampNeg (vi + 2)))
  refine lw_callX K [.int (xs (Int32.toNatClampNeg (vi + 1))), .int (xs (Int32.toNatClampNeg (vi + 2)))] [] (c_X7_member l D a cy K.2.2.2.2.2.2.1 N _ _ _ h1) (lw_goodV wl_L_77 wi_X7_member ws_X7_member wn_X7 wc_X7_member) ⟨rfl, rfl⟩ hv_X7_member ⟨Nat.le_of_ble_eq_true rfl, Nat.le_of_ble_eq_true rfl⟩ hPX hPY hS rfl hl.1 rfl (Nat.le_of_ble_eq_true rfl) dL_law_496 (fun H locs hPX hPY hS => ?_)
  refine lv_aload_n hx hb dL_law_499 rfl (lv_at hl 2 rfl) ?_
  refine lv_aload_n hx hb dL_law_500 rfl (lv_at hl 0 rfl) ?_
  refine lv_iload_n hx hb dL_law_501 rfl (lv_at hl 3 rfl) ?_
  refine lv_iconst (v := 1) hx hb dL_law_502 (by decide) ?_
  refine lv_iadd hx hb dL_law_503 ?_
  refine va_sld hx hb (lw_Xd hX) hbl hbA hS (lw_ix1 hL hj hvi) dL_law_504 ?_
  refine lv_aload_n hx hb dL_law_505 rfl (lv_at hl 0 rfl) ?_
  refine lv_iload_n hx hb dL_law_506 rfl (lv_at hl 3 rfl) ?_
  refine lv_iconst (v := 2) hx hb dL_law_507 (by decide) ?_
  refine lv_iadd hx hb dL_law_508 ?_
  refine va_sld hx hb (lw_Xd hX) hbl hbA hS (lw_ix2 hL hj hvi) dL_law_509 ?_
  refine lw_callY K [.int (xs (Int32.toNatClampNeg (vi + 1))), .int (xs (Int32.toNatClampNeg (vi + 2)))] [.int r] (c_X8_member l D a2 cy K.2.2.2.2.2.2.2 N _ _ _ h2) (lw_goodV wl_L_80 wi_X8_member ws_X8_member wn_X8 wc_X8_member) ⟨rfl, rfl⟩ hv_X8_member ⟨Nat.le_of_ble_eq_true rfl, Nat.le_of_ble_eq_true rfl⟩ hPX hPY hS rfl hl.1 rfl (Nat.le_of_ble_eq_true rfl) dL_law_510 (fun H locs hPX hPY hS => ?_)
  refine lv_icmp_eq (tgt := 736) hx hb dL_law_513 (by decide) (fun _ => ?_) (fun h => absurd rfl h)
  exact kback X1 Y1 d0 H locs ls hd0 hI1 hPX hPY hS (lv_sub hl [0, 1, 2, 3] rfl)
set_option maxHeartbeats 4000000 in
set_option maxRecDepth 100000 in
theorem law_open (l : Launch) {p : Program} {e : Env} {s : State} {m : MethodId} {below : List Frame} {meth : Method} {c : Code} {b L : Nat} {xs : Nat → Int32} {D : va_G} {a a2 : Nat → Nat} {cy : Nat → ClassId} (hL : L ≤ 2048) (K : lw_K p s m meth c b L xs D a a2 cy) {N : Nat} {Inv : Nat → XT → XT → Prop} (hst : m_Step N Inv) (j : Nat) (hj : 4 * j + 4 ≤ L) (vi : Int32) (hvi : vi = nI (4 * j)) (X Y : XT) (hI : Inv j X Y) (d0 : Drawn) (hd0 : s.drawn.sameBut d0 lw_cs) (H : Heap) (locs : List Loc) (ls : Array Slot) (hPX : va_P D vwCl (m_WC a cy X) H) (hPY : va_P D vwCl (m_WM a2 cy Y) H) (hS : va_S (lw_A0 s) s.heap H locs) (hl : lv_has ls 8 [(0, .ref b), (1, .ref (a 126)), (2, .ref (a2 0)), (3, .int vi)]) (kback : ∀ (X1 Y1 : XT) (d1 : Drawn) (H1 : Heap) (locs1 : List Loc) (ls1 : Array Slot), s.drawn.sameBut d1 lw_cs → Inv (j + 1) X1 Y1 → va_P D vwCl (m_WC a cy X1) H1 → va_P D vwCl (m_WM a2 cy Y1) H1 → va_S (lw_A0 s) s.heap H1 locs1 → lv_has ls1 8 [(0, .ref b), (1, .ref (a 126)), (2, .ref (a2 0)), (3, .int vi)] → W p l e room_1 (s.setDrawn d1) m #[Value.ref b] below meth c H1 locs1 600000 7302250 (lw_Z below #[Value.ref b] s) (F0 m 736 ls1 [])) : W p l e room_1 (s.setDrawn d0) m #[Value.ref b] below meth c H locs 600000 7302250 (lw_Z below #[Value.ref b] s) (F0 m 518 ls []) := by
  have hx := K.1.1
  have hb := K.1.2.1
  have hX := K.1.2.2.2.2.2.2.1
  have hbl := K.1.2.2.2.2.2.2.2.1
  have hbA : ¬ lw_A0 s b := Nat.not_le.mpr hbl
  refine lv_aload_n hx hb dL_law_518 rfl (lv_at hl 1 rfl) ?_
  refine lv_aload_n hx hb dL_law_519 rfl (lv_at hl 0 rfl) ?_
  refine lv_iload_n hx hb dL_law_520 rfl (lv_at hl 3 rfl) ?_
  refine lv_iconst (v := 1) hx hb dL_law_521 (by decide) ?_
  refine lv_iadd hx hb dL_law_522 ?_
  refine va_sld hx hb (lw_Xd hX) hbl hbA hS (lw_ix1 hL hj hvi) dL_law_523 ?_
  obtain ⟨r, X1, Y1, h1, h2, hI1⟩ := hst.2.2.2.2.2.2.2.2.2.2.2.2.2.2.2.2.1 j X Y (by omega) hI (xs (Int32.toNatClampNeg (vi + 1)))
  refine lw_callX K [.int (xs (Int32.toNatClampNeg (vi + 1)))] [] (c_X7_open l D a cy K.2.2.2.2.2.2.1 N _ _ h1) (lw_goodV wl_L_81 wi_X7_open ws_X7_open wn_X7 wc_X7_open) ⟨rfl, rfl⟩ hv_X7_open ⟨Nat.le_of_ble_eq_true rfl, Nat.le_of_ble_eq_true rfl⟩ hPX hPY hS rfl hl.1 rfl (Nat.le_of_ble_eq_true rfl) dL_law_524 (fun H locs hPX hPY hS => ?_)
  refine lv_aload_n hx hb dL_law_527 rfl (lv_at hl 2 rfl) ?_
  refine lv_aload_n hx hb dL_law_528 rfl (lv_at hl 0 rfl) ?_
  refine lv_iload_n hx hb dL_law_529 rfl (lv_at hl 3 rfl) ?_
  refine lv_iconst (v := 1) hx hb dL_law_530 (by decide) ?_
  refine lv_iadd hx hb dL_law_531 ?_
  refine va_sld hx hb (lw_Xd hX) hbl hbA hS (lw_ix1 hL hj hvi) dL_law_532 ?_
  refine lw_callY K [.int (xs (Int32.toNatClampNeg (vi + 1)))] [.int r] (c_X8_open l D a2 cy K.2.2.2.2.2.2.2 N _ _ h2) (lw_goodV wl_L_84 wi_X8_open ws_X8_open wn_X8 wc_X8_open) ⟨rfl, rfl⟩ hv_X8_open ⟨Nat.le_of_ble_eq_true rfl, Nat.le_of_ble_eq_true rfl⟩ hPX hPY hS rfl hl.1 rfl (Nat.le_of_ble_eq_true rfl) dL_law_533 (fun H locs hPX hPY hS => ?_)
  refine lv_icmp_eq (tgt := 736) hx hb dL_law_536 (by decide) (fun _ => ?_) (fun h => absurd rfl h)
  exact kback X1 Y1 d0 H locs ls hd0 hI1 hPX hPY hS (lv_sub hl [0, 1, 2, 3] rfl)
set_option maxHeartbeats 4000000 in
set_option maxRecDepth 100000 in
theorem law_queued (l : Launch) {p : Program} {e : Env} {s : State} {m : MethodId} {below : List Frame} {meth : Method} {c : Code} {b L : Nat} {xs : Nat → Int32} {D : va_G} {a a2 : Nat → Nat} {cy : Nat → ClassId} (hL : L ≤ 2048) (K : lw_K p s m meth c b L xs D a a2 cy) {N : Nat} {Inv : Nat → XT → XT → Prop} (hst : m_Step N Inv) (j : Nat) (hj : 4 * j + 4 ≤ L) (vi : Int32) (hvi : vi = nI (4 * j)) (X Y : XT) (hI : Inv j X Y) (d0 : Drawn) (hd0 : s.drawn.sameBut d0 lw_cs) (H : Heap) (locs : List Loc) (ls : Array Slot) (hPX : va_P D vwCl (m_WC a cy X) H) (hPY : va_P D vwCl (m_WM a2 cy Y) H) (hS : va_S (lw_A0 s) s.heap H locs) (hl : lv_has ls 8 [(0, .ref b), (1, .ref (a 126)), (2, .ref (a2 0)), (3, .int vi)]) (kback : ∀ (X1 Y1 : XT) (d1 : Drawn) (H1 : Heap) (locs1 : List Loc) (ls1 : Array Slot), s.drawn.sameBut d1 lw_cs → Inv (j + 1) X1 Y1 → va_P D vwCl (m_WC a cy X1) H1 → va_P D vwCl (m_WM a2 cy Y1) H1 → va_S (lw_A0 s) s.heap H1 locs1 → lv_has ls1 8 [(0, .ref b), (1, .ref (a 126)), (2, .ref (a2 0)), (3, .int vi)] → W p l e room_1 (s.setDrawn d1) m #[Value.ref b] below meth c H1 locs1 600000 7302250 (lw_Z below #[Value.ref b] s) (F0 m 736 ls1 [])) : W p l e room_1 (s.setDrawn d0) m #[Value.ref b] below meth c H locs 600000 7302250 (lw_Z below #[Value.ref b] s) (F0 m 541 ls []) := by
  have hx := K.1.1
  have hb := K.1.2.1
  have hX := K.1.2.2.2.2.2.2.1
  have hbl := K.1.2.2.2.2.2.2.2.1
  have hbA : ¬ lw_A0 s b := Nat.not_le.mpr hbl
  refine lv_aload_n hx hb dL_law_541 rfl (lv_at hl 1 rfl) ?_
  refine lv_aload_n hx hb dL_law_542 rfl (lv_at hl 0 rfl) ?_
  refine lv_iload_n hx hb dL_law_543 rfl (lv_at hl 3 rfl) ?_
  refine lv_iconst (v := 1) hx hb dL_law_544 (by decide) ?_
  refine lv_iadd hx hb dL_law_545 ?_
  refine va_sld hx hb (lw_Xd hX) hbl hbA hS (lw_ix1 hL hj hvi) dL_law_546 ?_
  obtain ⟨r, X1, Y1, h1, h2, hI1⟩ := hst.2.2.2.2.2.2.2.2.2.2.2.2.2.2.2.2.2.1 j X Y (by omega) hI (xs (Int32.toNatClampNeg (vi + 1)))
  refine lw_callX K [.int (xs (Int32.toNatClampNeg (vi + 1)))] [] (c_X7_queued l D a cy K.2.2.2.2.2.2.1 N _ _ h1) (lw_goodV wl_L_85 wi_X7_queued ws_X7_queued wn_X7 wc_X7_queued) ⟨rfl, rfl⟩ hv_X7_queued ⟨Nat.le_of_ble_eq_true rfl, Nat.le_of_ble_eq_true rfl⟩ hPX hPY hS rfl hl.1 rfl (Nat.le_of_ble_eq_true rfl) dL_law_547 (fun H locs hPX hPY hS => ?_)
  refine lv_aload_n hx hb dL_law_550 rfl (lv_at hl 2 rfl) ?_
  refine lv_aload_n hx hb dL_law_551 rfl (lv_at hl 0 rfl) ?_
  refine lv_iload_n hx hb dL_law_552 rfl (lv_at hl 3 rfl) ?_
  refine lv_iconst (v := 1) hx hb dL_law_553 (by decide) ?_
  refine lv_iadd hx hb dL_law_554 ?_
  refine va_sld hx hb (lw_Xd hX) hbl hbA hS (lw_ix1 hL hj hvi) dL_law_555 ?_
  refine lw_callY K [.int (xs (Int32.toNatClampNeg (vi + 1)))] [.int r] (c_X8_queued l D a2 cy K.2.2.2.2.2.2.2 N _ _ h2) (lw_goodV wl_L_88 wi_X8_queued ws_X8_queued wn_X8 wc_X8_queued) ⟨rfl, rfl⟩ hv_X8_queued ⟨Nat.le_of_ble_eq_true rfl, Nat.le_of_ble_eq_true rfl⟩ hPX hPY hS rfl hl.1 rfl (Nat.le_of_ble_eq_true rfl) dL_law_556 (fun H locs hPX hPY hS => ?_)
  refine lv_icmp_eq (tgt := 736) hx hb dL_law_559 (by decide) (fun _ => ?_) (fun h => absurd rfl h)
  exact kback X1 Y1 d0 H locs ls hd0 hI1 hPX hPY hS (lv_sub hl [0, 1, 2, 3] rfl)
set_option maxHeartbeats 4000000 in
set_option maxRecDepth 100000 in
theorem law_count (l : Launch) {p : Program} {e : Env} {s : State} {m : MethodId} {below : List Frame} {meth : Method} {c : Code} {b L : Nat} {xs : Nat → Int32} {D : va_G} {a a2 : Nat → Nat} {cy : Nat → ClassId} (hL : L ≤ 2048) (K : lw_K p s m meth c b L xs D a a2 cy) {N : Nat} {Inv : Nat → XT → XT → Prop} (hst : m_Step N Inv) (j : Nat) (hj : 4 * j + 4 ≤ L) (vi : Int32) (hvi : vi = nI (4 * j)) (X Y : XT) (hI : Inv j X Y) (d0 : Drawn) (hd0 : s.drawn.sameBut d0 lw_cs) (H : Heap) (locs : List Loc) (ls : Array Slot) (hPX : va_P D vwCl (m_WC a cy X) H) (hPY : va_P D vwCl (m_WM a2 cy Y) H) (hS : va_S (lw_A0 s) s.heap H locs) (hl : lv_has ls 8 [(0, .ref b), (1, .ref (a 126)), (2, .ref (a2 0)), (3, .int vi)]) (kback : ∀ (X1 Y1 : XT) (d1 : Drawn) (H1 : Heap) (locs1 : List Loc) (ls1 : Array Slot), s.drawn.sameBut d1 lw_cs → Inv (j + 1) X1 Y1 → va_P D vwCl (m_WC a cy X1) H1 → va_P D vwCl (m_WM a2 cy Y1) H1 → va_S (lw_A0 s) s.heap H1 locs1 → lv_has ls1 8 [(0, .ref b), (1, .ref (a 126)), (2, .ref (a2 0)), (3, .int vi)] → W p l e room_1 (s.setDrawn d1) m #[Value.ref b] below meth c H1 locs1 600000 7302250 (lw_Z below #[Value.ref b] s) (F0 m 736 ls1 [])) : W p l e room_1 (s.setDrawn d0) m #[Value.ref b] below meth c H locs 600000 7302250 (lw_Z below #[Value.ref b] s) (F0 m 564 ls []) := by
  have hx := K.1.1
  have hb := K.1.2.1
  have hX := K.1.2.2.2.2.2.2.1
  have hbl := K.1.2.2.2.2.2.2.2.1
  have hbA : ¬ lw_A0 s b := Nat.not_le.mpr hbl
  refine lv_aload_n hx hb dL_law_564 rfl (lv_at hl 1 rfl) ?_
  refine lv_aload_n hx hb dL_law_565 rfl (lv_at hl 0 rfl) ?_
  refine lv_iload_n hx hb dL_law_566 rfl (lv_at hl 3 rfl) ?_
  refine lv_iconst (v := 1) hx hb dL_law_567 (by decide) ?_
  refine lv_iadd hx hb dL_law_568 ?_
  refine va_sld hx hb (lw_Xd hX) hbl hbA hS (lw_ix1 hL hj hvi) dL_law_569 ?_
  obtain ⟨r, X1, Y1, h1, h2, hI1⟩ := hst.2.2.2.2.2.2.2.2.2.2.2.2.2.2.2.2.2.2.1 j X Y (by omega) hI (xs (Int32.toNatClampNeg (vi + 1)))
  refine lw_callX K [.int (xs (Int32.toNatClampNeg (vi + 1)))] [] (c_X7_count l D a cy K.2.2.2.2.2.2.1 N _ _ h1) (lw_goodV wl_L_89 wi_X7_count ws_X7_count wn_X7 wc_X7_count) ⟨rfl, rfl⟩ hv_X7_count ⟨Nat.le_of_ble_eq_true rfl, Nat.le_of_ble_eq_true rfl⟩ hPX hPY hS rfl hl.1 rfl (Nat.le_of_ble_eq_true rfl) dL_law_570 (fun H locs hPX hPY hS => ?_)
  refine lv_aload_n hx hb dL_law_573 rfl (lv_at hl 2 rfl) ?_
  refine lv_aload_n hx hb dL_law_574 rfl (lv_at hl 0 rfl) ?_
  refine lv_iload_n hx hb dL_law_575 rfl (lv_at hl 3 rfl) ?_
  refine lv_iconst (v := 1) hx hb dL_law_576 (by decide) ?_
  refine lv_iadd hx hb dL_law_577 ?_
  refine va_sld hx hb (lw_Xd hX) hbl hbA hS (lw_ix1 hL hj hvi) dL_law_578 ?_
  refine lw_callY K [.int (xs (Int32.toNatClampNeg (vi + 1)))] [.int r] (c_X8_count l D a2 cy K.2.2.2.2.2.2.2 N _ _ h2) (lw_goodV wl_L_92 wi_X8_count ws_X8_count wn_X8 wc_X8_count) ⟨rfl, rfl⟩ hv_X8_count ⟨Nat.le_of_ble_eq_true rfl, Nat.le_of_ble_eq_true rfl⟩ hPX hPY hS rfl hl.1 rfl (Nat.le_of_ble_eq_true rfl) dL_law_579 (fun H locs hPX hPY hS => ?_)
  refine lv_icmp_eq (tgt := 736) hx hb dL_law_582 (by decide) (fun _ => ?_) (fun h => absurd rfl h)
  exact kback X1 Y1 d0 H locs ls hd0 hI1 hPX hPY hS (lv_sub hl [0, 1, 2, 3] rfl)
set_option maxHeartbeats 4000000 in
set_option maxRecDepth 100000 in
theorem law_total (l : Launch) {p : Program} {e : Env} {s : State} {m : MethodId} {below : List Frame} {meth : Method} {c : Code} {b L : Nat} {xs : Nat → Int32} {D : va_G} {a a2 : Nat → Nat} {cy : Nat → ClassId} (hL : L ≤ 2048) (K : lw_K p s m meth c b L xs D a a2 cy) {N : Nat} {Inv : Nat → XT → XT → Prop} (hst : m_Step N Inv) (j : Nat) (hj : 4 * j + 4 ≤ L) (vi : Int32) (hvi : vi = nI (4 * j)) (X Y : XT) (hI : Inv j X Y) (d0 : Drawn) (hd0 : s.drawn.sameBut d0 lw_cs) (H : Heap) (locs : List Loc) (ls : Array Slot) (hPX : va_P D vwCl (m_WC a cy X) H) (hPY : va_P D vwCl (m_WM a2 cy Y) H) (hS : va_S (lw_A0 s) s.heap H locs) (hl : lv_has ls 8 [(0, .ref b), (1, .ref (a 126)), (2, .ref (a2 0)), (3, .int vi)]) (kback : ∀ (X1 Y1 : XT) (d1 : Drawn) (H1 : Heap) (locs1 : List Loc) (ls1 : Array Slot), s.drawn.sameBut d1 lw_cs → Inv (j + 1) X1 Y1 → va_P D vwCl (m_WC a cy X1) H1 → va_P D vwCl (m_WM a2 cy Y1) H1 → va_S (lw_A0 s) s.heap H1 locs1 → lv_has ls1 8 [(0, .ref b), (1, .ref (a 126)), (2, .ref (a2 0)), (3, .int vi)] → W p l e room_1 (s.setDrawn d1) m #[Value.ref b] below meth c H1 locs1 600000 7302250 (lw_Z below #[Value.ref b] s) (F0 m 736 ls1 [])) : W p l e room_1 (s.setDrawn d0) m #[Value.ref b] below meth c H locs 600000 7302250 (lw_Z below #[Value.ref b] s) (F0 m 587 ls []) := by
  have hx := K.1.1
  have hb := K.1.2.1
  have hX := K.1.2.2.2.2.2.2.1
  have hbl := K.1.2.2.2.2.2.2.2.1
  have hbA : ¬ lw_A0 s b := Nat.not_le.mpr hbl
  refine lv_aload_n hx hb dL_law_587 rfl (lv_at hl 1 rfl) ?_
  refine lv_aload_n hx hb dL_law_588 rfl (lv_at hl 0 rfl) ?_
  refine lv_iload_n hx hb dL_law_589 rfl (lv_at hl 3 rfl) ?_
  refine lv_iconst (v := 1) hx hb dL_law_590 (by decide) ?_
  refine lv_iadd hx hb dL_law_591 ?_
  refine va_sld hx hb (lw_Xd hX) hbl hbA hS (lw_ix1 hL hj hvi) dL_law_592 ?_
  obtain ⟨r, X1, Y1, h1, h2, hI1⟩ := hst.2.2.2.2.2.2.2.2.2.2.2.2.2.2.2.2.2.2.2.1 j X Y (by omega) hI (xs (Int32.toNatClampNeg (vi + 1)))
  refine lw_callX K [.int (xs (Int32.toNatClampNeg (vi + 1)))] [] (c_X7_total l D a cy K.2.2.2.2.2.2.1 N _ _ h1) (lw_goodV wl_L_93 wi_X7_total ws_X7_total wn_X7 wc_X7_total) ⟨rfl, rfl⟩ hv_X7_total ⟨Nat.le_of_ble_eq_true rfl, Nat.le_of_ble_eq_true rfl⟩ hPX hPY hS rfl hl.1 rfl (Nat.le_of_ble_eq_true rfl) dL_law_593 (fun H locs hPX hPY hS => ?_)
  refine lv_aload_n hx hb dL_law_596 rfl (lv_at hl 2 rfl) ?_
  refine lv_aload_n hx hb dL_law_597 rfl (lv_at hl 0 rfl) ?_
  refine lv_iload_n hx hb dL_law_598 rfl (lv_at hl 3 rfl) ?_
  refine lv_iconst (v := 1) hx hb dL_law_599 (by decide) ?_
  refine lv_iadd hx hb dL_law_600 ?_
  refine va_sld hx hb (lw_Xd hX) hbl hbA hS (lw_ix1 hL hj hvi) dL_law_601 ?_
  refine lw_callY K [.int (xs (Int32.toNatClampNeg (vi + 1)))] [.int r] (c_X8_total l D a2 cy K.2.2.2.2.2.2.2 N _ _ h2) (lw_goodV wl_L_96 wi_X8_total ws_X8_total wn_X8 wc_X8_total) ⟨rfl, rfl⟩ hv_X8_total ⟨Nat.le_of_ble_eq_true rfl, Nat.le_of_ble_eq_true rfl⟩ hPX hPY hS rfl hl.1 rfl (Nat.le_of_ble_eq_true rfl) dL_law_602 (fun H locs hPX hPY hS => ?_)
  refine lv_icmp_eq (tgt := 736) hx hb dL_law_605 (by decide) (fun _ => ?_) (fun h => absurd rfl h)
  exact kback X1 Y1 d0 H locs ls hd0 hI1 hPX hPY hS (lv_sub hl [0, 1, 2, 3] rfl)
set_option maxHeartbeats 4000000 in
set_option maxRecDepth 100000 in
theorem law_answeredIn (l : Launch) {p : Program} {e : Env} {s : State} {m : MethodId} {below : List Frame} {meth : Method} {c : Code} {b L : Nat} {xs : Nat → Int32} {D : va_G} {a a2 : Nat → Nat} {cy : Nat → ClassId} (hL : L ≤ 2048) (K : lw_K p s m meth c b L xs D a a2 cy) {N : Nat} {Inv : Nat → XT → XT → Prop} (hst : m_Step N Inv) (j : Nat) (hj : 4 * j + 4 ≤ L) (vi : Int32) (hvi : vi = nI (4 * j)) (X Y : XT) (hI : Inv j X Y) (d0 : Drawn) (hd0 : s.drawn.sameBut d0 lw_cs) (H : Heap) (locs : List Loc) (ls : Array Slot) (hPX : va_P D vwCl (m_WC a cy X) H) (hPY : va_P D vwCl (m_WM a2 cy Y) H) (hS : va_S (lw_A0 s) s.heap H locs) (hl : lv_has ls 8 [(0, .ref b), (1, .ref (a 126)), (2, .ref (a2 0)), (3, .int vi)]) (kback : ∀ (X1 Y1 : XT) (d1 : Drawn) (H1 : Heap) (locs1 : List Loc) (ls1 : Array Slot), s.drawn.sameBut d1 lw_cs → Inv (j + 1) X1 Y1 → va_P D vwCl (m_WC a cy X1) H1 → va_P D vwCl (m_WM a2 cy Y1) H1 → va_S (lw_A0 s) s.heap H1 locs1 → lv_has ls1 8 [(0, .ref b), (1, .ref (a 126)), (2, .ref (a2 0)), (3, .int vi)] → W p l e room_1 (s.setDrawn d1) m #[Value.ref b] below meth c H1 locs1 600000 7302250 (lw_Z below #[Value.ref b] s) (F0 m 736 ls1 [])) : W p l e room_1 (s.setDrawn d0) m #[Value.ref b] below meth c H locs 600000 7302250 (lw_Z below #[Value.ref b] s) (F0 m 610 ls []) := by
  have hx := K.1.1
  have hb := K.1.2.1
  have hX := K.1.2.2.2.2.2.2.1
  have hbl := K.1.2.2.2.2.2.2.2.1
  have hbA : ¬ lw_A0 s b := Nat.not_le.mpr hbl
  refine lv_aload_n hx hb dL_law_610 rfl (lv_at hl 1 rfl) ?_
  refine lv_aload_n hx hb dL_law_611 rfl (lv_at hl 0 rfl) ?_
  refine lv_iload_n hx hb dL_law_612 rfl (lv_at hl 3 rfl) ?_
  refine lv_iconst (v := 1) hx hb dL_law_613 (by decide) ?_
  refine lv_iadd hx hb dL_law_614 ?_
  refine va_sld hx hb (lw_Xd hX) hbl hbA hS (lw_ix1 hL hj hvi) dL_law_615 ?_
  obtain ⟨r, X1, Y1, h1, h2, hI1⟩ := hst.2.2.2.2.2.2.2.2.2.2.2.2.2.2.2.2.2.2.2.2.1 j X Y (by omega) hI (xs (Int32.toNatClampNeg (vi + 1)))
  refine lw_callX K [.int (xs (Int32.toNatClampNeg (vi + 1)))] [] (c_X7_answeredIn l D a cy K.2.2.2.2.2.2.1 N _ _ h1) (lw_goodV wl_L_97 wi_X7_answeredIn ws_X7_answeredIn wn_X7 wc_X7_answeredIn) ⟨rfl, rfl⟩ hv_X7_answeredIn ⟨Nat.le_of_ble_eq_true rfl, Nat.le_of_ble_eq_true rfl⟩ hPX hPY hS rfl hl.1 rfl (Nat.le_of_ble_eq_true rfl) dL_law_616 (fun H locs hPX hPY hS => ?_)
  refine lv_aload_n hx hb dL_law_619 rfl (lv_at hl 2 rfl) ?_
  refine lv_aload_n hx hb dL_law_620 rfl (lv_at hl 0 rfl) ?_
  refine lv_iload_n hx hb dL_law_621 rfl (lv_at hl 3 rfl) ?_
  refine lv_iconst (v := 1) hx hb dL_law_622 (by decide) ?_
  refine lv_iadd hx hb dL_law_623 ?_
  refine va_sld hx hb (lw_Xd hX) hbl hbA hS (lw_ix1 hL hj hvi) dL_law_624 ?_
  refine lw_callY K [.int (xs (Int32.toNatClampNeg (vi + 1)))] [.int r] (c_X8_answeredIn l D a2 cy K.2.2.2.2.2.2.2 N _ _ h2) (lw_goodV wl_L_100 wi_X8_answeredIn ws_X8_answeredIn wn_X8 wc_X8_answeredIn) ⟨rfl, rfl⟩ hv_X8_answeredIn ⟨Nat.le_of_ble_eq_true rfl, Nat.le_of_ble_eq_true rfl⟩ hPX hPY hS rfl hl.1 rfl (Nat.le_of_ble_eq_true rfl) dL_law_625 (fun H locs hPX hPY hS => ?_)
  refine lv_icmp_eq (tgt := 736) hx hb dL_law_628 (by decide) (fun _ => ?_) (fun h => absurd rfl h)
  exact kback X1 Y1 d0 H locs ls hd0 hI1 hPX hPY hS (lv_sub hl [0, 1, 2, 3] rfl)
set_option maxHeartbeats 4000000 in
set_option maxRecDepth 100000 in
theorem law_ifSubmitted (l : Launch) {p : Program} {e : Env} {s : State} {m : MethodId} {below : List Frame} {meth : Method} {c : Code} {b L : Nat} {xs : Nat → Int32} {D : va_G} {a a2 : Nat → Nat} {cy : Nat → ClassId} (hL : L ≤ 2048) (K : lw_K p s m meth c b L xs D a a2 cy) {N : Nat} {Inv : Nat → XT → XT → Prop} (hst : m_Step N Inv) (j : Nat) (hj : 4 * j + 4 ≤ L) (vi : Int32) (hvi : vi = nI (4 * j)) (X Y : XT) (hI : Inv j X Y) (d0 : Drawn) (hd0 : s.drawn.sameBut d0 lw_cs) (H : Heap) (locs : List Loc) (ls : Array Slot) (hPX : va_P D vwCl (m_WC a cy X) H) (hPY : va_P D vwCl (m_WM a2 cy Y) H) (hS : va_S (lw_A0 s) s.heap H locs) (hl : lv_has ls 8 [(0, .ref b), (1, .ref (a 126)), (2, .ref (a2 0)), (3, .int vi)]) (kback : ∀ (X1 Y1 : XT) (d1 : Drawn) (H1 : Heap) (locs1 : List Loc) (ls1 : Array Slot), s.drawn.sameBut d1 lw_cs → Inv (j + 1) X1 Y1 → va_P D vwCl (m_WC a cy X1) H1 → va_P D vwCl (m_WM a2 cy Y1) H1 → va_S (lw_A0 s) s.heap H1 locs1 → lv_has ls1 8 [(0, .ref b), (1, .ref (a 126)), (2, .ref (a2 0)), (3, .int vi)] → W p l e room_1 (s.setDrawn d1) m #[Value.ref b] below meth c H1 locs1 600000 7302250 (lw_Z below #[Value.ref b] s) (F0 m 736 ls1 [])) : W p l e room_1 (s.setDrawn d0) m #[Value.ref b] below meth c H locs 600000 7302250 (lw_Z below #[Value.ref b] s) (F0 m 633 ls []) := by
  have hx := K.1.1
  have hb := K.1.2.1
  have hX := K.1.2.2.2.2.2.2.1
  have hbl := K.1.2.2.2.2.2.2.2.1
  have hbA : ¬ lw_A0 s b := Nat.not_le.mpr hbl
  refine lv_aload_n hx hb dL_law_633 rfl (lv_at hl 1 rfl) ?_
  refine lv_aload_n hx hb dL_law_634 rfl (lv_at hl 0 rfl) ?_
  refine lv_iload_n hx hb dL_law_635 rfl (lv_at hl 3 rfl) ?_
  refine lv_iconst (v := 1) hx hb dL_law_636 (by decide) ?_
  refine lv_iadd hx hb dL_law_637 ?_
  refine va_sld hx hb (lw_Xd hX) hbl hbA hS (lw_ix1 hL hj hvi) dL_law_638 ?_
  refine lv_aload_n hx hb dL_law_639 rfl (lv_at hl 0 rfl) ?_
  refine lv_iload_n hx hb dL_law_640 rfl (lv_at hl 3 rfl) ?_
  refine lv_iconst (v := 2) hx hb dL_law_641 (by decide) ?_
  refine lv_iadd hx hb dL_law_642 ?_
  refine va_sld hx hb (lw_Xd hX) hbl hbA hS (lw_ix2 hL hj hvi) dL_law_643 ?_
  refine lv_if_eq (tgt := 651) hx hb dL_law_644 (by decide) (fun c_1 => ?_) (fun c_1 => ?_)
  · have z_1 := c_1
    refine lv_iconst (v := 0) hx hb dL_law_651 (by decide) ?_
    obtain ⟨r, X1, Y1, h1, h2, hI1⟩ := hst.2.2.2.2.2.2.2.2.2.2.2.2.2.2.2.2.2.2.2.2.2.1 j X Y (by omega) hI (xs (Int32.toNatClampNeg (vi + 1))) 0 (Or.inl rfl)
    refine lw_callX K [.int (xs (Int32.toNatClampNeg (vi + 1))), .int 0] [] (c_X7_ifSubmitted l D a cy K.2.2.2.2.2.2.1 N _ _ _ h1) (lw_goodV wl_L_101 wi_X7_ifSubmitted ws_X7_ifSubmitted wn_X7 wc_X7_ifSubmitted) ⟨rfl, rfl⟩ hv_X7_ifSubmitted ⟨Nat.le_of_ble_eq_true rfl, Nat.le_of_ble_eq_true rfl⟩ hPX hPY hS rfl hl.1 rfl (Nat.le_of_ble_eq_true rfl) dL_law_652 (fun H locs hPX hPY hS => ?_)
    refine lv_aload_n hx hb dL_law_655 rfl (lv_at hl 2 rfl) ?_
    refine lv_aload_n hx hb dL_law_656 rfl (lv_at hl 0 rfl) ?_
    refine lv_iload_n hx hb dL_law_657 rfl (lv_at hl 3 rfl) ?_
    refine lv_iconst (v := 1) hx hb dL_law_658 (by decide) ?_
    refine lv_iadd hx hb dL_law_659 ?_
    refine va_sld hx hb (lw_Xd hX) hbl hbA hS (lw_ix1 hL hj hvi) dL_law_660 ?_
    refine lv_aload_n hx hb dL_law_661 rfl (lv_at hl 0 rfl) ?_
    refine lv_iload_n hx hb dL_law_662 rfl (lv_at hl 3 rfl) ?_
    refine lv_iconst (v := 2) hx hb dL_law_663 (by decide) ?_
    refine lv_iadd hx hb dL_law_664 ?_
    refine va_sld hx hb (lw_Xd hX) hbl hbA hS (lw_ix2 hL hj hvi) dL_law_665 ?_
    refine lv_if_eq (tgt := 673) hx hb dL_law_666 (by decide) (fun _ => ?_) (fun h => absurd c_1 h)
    refine lv_iconst (v := 0) hx hb dL_law_673 (by decide) ?_
    refine lw_callY K [.int (xs (Int32.toNatClampNeg (vi + 1))), .int 0] [.int r] (c_X8_ifSubmitted l D a2 cy K.2.2.2.2.2.2.2 N _ _ _ h2) (lw_goodV wl_L_105 wi_X8_ifSubmitted ws_X8_ifSubmitted wn_X8 wc_X8_ifSubmitted) ⟨rfl, rfl⟩ hv_X8_ifSubmitted ⟨Nat.le_of_ble_eq_true rfl, Nat.le_of_ble_eq_true rfl⟩ hPX hPY hS rfl hl.1 rfl (Nat.le_of_ble_eq_true rfl) dL_law_674 (fun H locs hPX hPY hS => ?_)
    refine lv_icmp_eq (tgt := 736) hx hb dL_law_677 (by decide) (fun _ => ?_) (fun h => absurd rfl h)
    exact kback X1 Y1 d0 H locs ls hd0 hI1 hPX hPY hS (lv_sub hl [0, 1, 2, 3] rfl)
  · have z_1 := c_1
    refine lv_iconst (v := 1) hx hb dL_law_647 (by decide) ?_
    refine lv_goto (tgt := 652) hx hb dL_law_648 (by decide) ?_
    obtain ⟨r, X1, Y1, h1, h2, hI1⟩ := hst.2.2.2.2.2.2.2.2.2.2.2.2.2.2.2.2.2.2.2.2.2.1 j X Y (by omega) hI (xs (Int32.toNatClampNeg (vi + 1))) 1 (Or.inr rfl)
    refine lw_callX K [.int (xs (Int32.toNatClampNeg (vi + 1))), .int 1] [] (c_X7_ifSubmitted l D a cy K.2.2.2.2.2.2.1 N _ _ _ h1) (lw_goodV wl_L_101 wi_X7_ifSubmitted ws_X7_ifSubmitted wn_X7 wc_X7_ifSubmitted) ⟨rfl, rfl⟩ hv_X7_ifSubmitted ⟨Nat.le_of_ble_eq_true rfl, Nat.le_of_ble_eq_true rfl⟩ hPX hPY hS rfl hl.1 rfl (Nat.le_of_ble_eq_true rfl) dL_law_652 (fun H locs hPX hPY hS => ?_)
    refine lv_aload_n hx hb dL_law_655 rfl (lv_at hl 2 rfl) ?_
    refine lv_aload_n hx hb dL_law_656 rfl (lv_at hl 0 rfl) ?_
    refine lv_iload_n hx hb dL_law_657 rfl (lv_at hl 3 rfl) ?_
    refine lv_iconst (v := 1) hx hb dL_law_658 (by decide) ?_
    refine lv_iadd hx hb dL_law_659 ?_
    refine va_sld hx hb (lw_Xd hX) hbl hbA hS (lw_ix1 hL hj hvi) dL_law_660 ?_
    refine lv_aload_n hx hb dL_law_661 rfl (lv_at hl 0 rfl) ?_
    refine lv_iload_n hx hb dL_law_662 rfl (lv_at hl 3 rfl) ?_
    refine lv_iconst (v := 2) hx hb dL_law_663 (by decide) ?_
    refine lv_iadd hx hb dL_law_664 ?_
    refine va_sld hx hb (lw_Xd hX) hbl hbA hS (lw_ix2 hL hj hvi) dL_law_665 ?_
    refine lv_if_eq (tgt := 673) hx hb dL_law_666 (by decide) (fun h => absurd h c_1) (fun _ => ?_)
    refine lv_iconst (v := 1) hx hb dL_law_669 (by decide) ?_
    refine lv_goto (tgt := 674) hx hb dL_law_670 (by decide) ?_
    refine lw_callY K [.int (xs (Int32.toNatClampNeg (vi + 1))), .int 1] [.int r] (c_X8_ifSubmitted l D a2 cy K.2.2.2.2.2.2.2 N _ _ _ h2) (lw_goodV wl_L_105 wi_X8_ifSubmitted ws_X8_ifSubmitted wn_X8 wc_X8_ifSubmitted) ⟨rfl, rfl⟩ hv_X8_ifSubmitted ⟨Nat.le_of_ble_eq_true rfl, Nat.le_of_ble_eq_true rfl⟩ hPX hPY hS rfl hl.1 rfl (Nat.le_of_ble_eq_true rfl) dL_law_674 (fun H locs hPX hPY hS => ?_)
    refine lv_icmp_eq (tgt := 736) hx hb dL_law_677 (by decide) (fun _ => ?_) (fun h => absurd rfl h)
    exact kback X1 Y1 d0 H locs ls hd0 hI1 hPX hPY hS (lv_sub hl [0, 1, 2, 3] rfl)
set_option maxHeartbeats 4000000 in
set_option maxRecDepth 100000 in
theorem law_idleIn (l : Launch) {p : Program} {e : Env} {s : State} {m : MethodId} {below : List Frame} {meth : Method} {c : Code} {b L : Nat} {xs : Nat → Int32} {D : va_G} {a a2 : Nat → Nat} {cy : Nat → ClassId} (hL : L ≤ 2048) (K : lw_K p s m meth c b L xs D a a2 cy) {N : Nat} {Inv : Nat → XT → XT → Prop} (hst : m_Step N Inv) (j : Nat) (hj : 4 * j + 4 ≤ L) (vi : Int32) (hvi : vi = nI (4 * j)) (X Y : XT) (hI : Inv j X Y) (d0 : Drawn) (hd0 : s.drawn.sameBut d0 lw_cs) (H : Heap) (locs : List Loc) (ls : Array Slot) (hPX : va_P D vwCl (m_WC a cy X) H) (hPY : va_P D vwCl (m_WM a2 cy Y) H) (hS : va_S (lw_A0 s) s.heap H locs) (hl : lv_has ls 8 [(0, .ref b), (1, .ref (a 126)), (2, .ref (a2 0)), (3, .int vi)]) (kback : ∀ (X1 Y1 : XT) (d1 : Drawn) (H1 : Heap) (locs1 : List Loc) (ls1 : Array Slot), s.drawn.sameBut d1 lw_cs → Inv (j + 1) X1 Y1 → va_P D vwCl (m_WC a cy X1) H1 → va_P D vwCl (m_WM a2 cy Y1) H1 → va_S (lw_A0 s) s.heap H1 locs1 → lv_has ls1 8 [(0, .ref b), (1, .ref (a 126)), (2, .ref (a2 0)), (3, .int vi)] → W p l e room_1 (s.setDrawn d1) m #[Value.ref b] below meth c H1 locs1 600000 7302250 (lw_Z below #[Value.ref b] s) (F0 m 736 ls1 [])) : W p l e room_1 (s.setDrawn d0) m #[Value.ref b] below meth c H locs 600000 7302250 (lw_Z below #[Value.ref b] s) (F0 m 682 ls []) := by
  have hx := K.1.1
  have hb := K.1.2.1
  have hX := K.1.2.2.2.2.2.2.1
  have hbl := K.1.2.2.2.2.2.2.2.1
  have hbA : ¬ lw_A0 s b := Nat.not_le.mpr hbl
  refine lv_aload_n hx hb dL_law_682 rfl (lv_at hl 1 rfl) ?_
  obtain ⟨r, X1, Y1, h1, h2, hI1⟩ := hst.2.2.2.2.2.2.2.2.2.2.2.2.2.2.2.2.2.2.2.2.2.2.1 j X Y (by omega) hI 
  refine lw_callX K [] [] (c_X7_idleIn l D a cy K.2.2.2.2.2.2.1 N  _ h1) (lw_goodV wl_L_106 wi_X7_idleIn ws_X7_idleIn wn_X7 wc_X7_idleIn) ⟨rfl, rfl⟩ hv_X7_idleIn ⟨Nat.le_of_ble_eq_true rfl, Nat.le_of_ble_eq_true rfl⟩ hPX hPY hS rfl hl.1 rfl (Nat.le_of_ble_eq_true rfl) dL_law_683 (fun H locs hPX hPY hS => ?_)
  refine lv_aload_n hx hb dL_law_686 rfl (lv_at hl 2 rfl) ?_
  refine lw_callY K [] [.int r] (c_X8_idleIn l D a2 cy K.2.2.2.2.2.2.2 N  _ h2) (lw_goodV wl_L_109 wi_X8_idleIn ws_X8_idleIn wn_X8 wc_X8_idleIn) ⟨rfl, rfl⟩ hv_X8_idleIn ⟨Nat.le_of_ble_eq_true rfl, Nat.le_of_ble_eq_true rfl⟩ hPX hPY hS rfl hl.1 rfl (Nat.le_of_ble_eq_true rfl) dL_law_687 (fun H locs hPX hPY hS => ?_)
  refine lv_icmp_eq (tgt := 736) hx hb dL_law_690 (by decide) (fun _ => ?_) (fun h => absurd rfl h)
  exact kback X1 Y1 d0 H locs ls hd0 hI1 hPX hPY hS (lv_sub hl [0, 1, 2, 3] rfl)
set_option maxHeartbeats 4000000 in
set_option maxRecDepth 100000 in
theorem law_mean (l : Launch) {p : Program} {e : Env} {s : State} {m : MethodId} {below : List Frame} {meth : Method} {c : Code} {b L : Nat} {xs : Nat → Int32} {D : va_G} {a a2 : Nat → Nat} {cy : Nat → ClassId} (hL : L ≤ 2048) (K : lw_K p s m meth c b L xs D a a2 cy) {N : Nat} {Inv : Nat → XT → XT → Prop} (hst : m_Step N Inv) (j : Nat) (hj : 4 * j + 4 ≤ L) (vi : Int32) (hvi : vi = nI (4 * j)) (X Y : XT) (hI : Inv j X Y) (d0 : Drawn) (hd0 : s.drawn.sameBut d0 lw_cs) (H : Heap) (locs : List Loc) (ls : Array Slot) (hPX : va_P D vwCl (m_WC a cy X) H) (hPY : va_P D vwCl (m_WM a2 cy Y) H) (hS : va_S (lw_A0 s) s.heap H locs) (hl : lv_has ls 8 [(0, .ref b), (1, .ref (a 126)), (2, .ref (a2 0)), (3, .int vi)]) (kback : ∀ (X1 Y1 : XT) (d1 : Drawn) (H1 : Heap) (locs1 : List Loc) (ls1 : Array Slot), s.drawn.sameBut d1 lw_cs → Inv (j + 1) X1 Y1 → va_P D vwCl (m_WC a cy X1) H1 → va_P D vwCl (m_WM a2 cy Y1) H1 → va_S (lw_A0 s) s.heap H1 locs1 → lv_has ls1 8 [(0, .ref b), (1, .ref (a 126)), (2, .ref (a2 0)), (3, .int vi)] → W p l e room_1 (s.setDrawn d1) m #[Value.ref b] below meth c H1 locs1 600000 7302250 (lw_Z below #[Value.ref b] s) (F0 m 736 ls1 [])) : W p l e room_1 (s.setDrawn d0) m #[Value.ref b] below meth c H locs 600000 7302250 (lw_Z below #[Value.ref b] s) (F0 m 695 ls []) := by
  have hx := K.1.1
  have hb := K.1.2.1
  have hX := K.1.2.2.2.2.2.2.1
  have hbl := K.1.2.2.2.2.2.2.2.1
  have hbA : ¬ lw_A0 s b := Nat.not_le.mpr hbl
  obtain ⟨e1, e2⟩ := hst.2.2.2.2.2.2.2.2.2.2.2.2.2.2.2.2.2.2.2.2.2.2.2.1 j X Y (by omega) hI
  have hI1 := hst.2.2.2.2.2.2.2.2.2.2.2.2.2.2.2.2.2.2.2.2.2.2.2.2 j X Y (by omega) hI
  refine lv_aload_n hx hb dL_law_695 rfl (lv_at hl 1 rfl) ?_
  refine lw_callXd hd0 K (c_X7_mean l D a cy K.2.2.2.2.2.2.1 X) (lw_goodV wl_L_110 wi_X7_mean ws_X7_mean wn_X7 wc_X7_mean) ⟨rfl, rfl⟩ hv_X7_mean ⟨Nat.le_of_ble_eq_true rfl, Nat.le_of_ble_eq_true rfl⟩ hPX hPY hS hl.1 dL_law_696 (fun q1 H locs d1 hd1 hm1 hPX hPY hS => ?_)
  refine lv_dstore (lv' := [(4, .double q1), (0, .ref b), (1, .ref (a 126)), (2, .ref (a2 0)), (3, .int vi)]) hx hb dL_law_699 hl (by decide) rfl (fun ls hl => ?_)
  refine lv_aload_n hx hb dL_law_701 rfl (lv_at hl 3 rfl) ?_
  refine lw_callYd hd1 K (c_X8_mean l D a2 cy K.2.2.2.2.2.2.2 Y) (lw_goodV wl_L_114 wi_X8_mean ws_X8_mean wn_X8 wc_X8_mean) ⟨rfl, rfl⟩ hv_X8_mean ⟨Nat.le_of_ble_eq_true rfl, Nat.le_of_ble_eq_true rfl⟩ hPX hPY hS hl.1 dL_law_702 (fun q2 H locs d2 hd2 hm2 hPX hPY hS => ?_)
  refine lv_dstore (lv' := [(6, .double q2), (4, .double q1), (0, .ref b), (1, .ref (a 126)), (2, .ref (a2 0)), (3, .int vi)]) hx hb dL_law_705 hl (by decide) rfl (fun ls hl => ?_)
  rw [← e1, ← e2] at hm2
  have hq := m_mean_two hm1 hm2
  have kend : ∀ ls : Array Slot, lv_has ls 8 [(6, .double q2), (4, .double q1), (0, .ref b), (1, .ref (a 126)), (2, .ref (a2 0)), (3, .int vi)] → W p l e room_1 (s.setDrawn d2) m #[Value.ref b] below meth c H locs 600000 7302250 (lw_Z below #[Value.ref b] s) (F0 m 733 ls []) := by
    intro ls hl
    refine lv_goto (tgt := 736) hx hb dL_law_733 (by decide) ?_
    exact kback X Y d2 H locs ls hd2 hI1 hPX hPY hS (lv_sub hl [2, 3, 4, 5] rfl)
  refine lv_dload hx hb dL_law_707 (lv_at hl 1 rfl) ?_
  refine lv_dload hx hb dL_law_709 (lv_at hl 0 rfl) ?_
  refine lv_dcmp hx hb dL_law_711 ?_
  refine lv_if_eq (tgt := 733) hx hb dL_law_712 (by decide) (fun _ => kend ls hl) (fun c_1 => ?_)
  refine lv_dload hx hb dL_law_715 (lv_at hl 1 rfl) ?_
  refine lv_dload hx hb dL_law_717 (lv_at hl 1 rfl) ?_
  refine lv_dcmp hx hb dL_law_719 ?_
  refine lv_if_eq (tgt := 731) hx hb dL_law_720 (by decide) (fun c_2 => ?_) (fun c_2 => ?_)
  · refine absurd c_2 ?_
    rcases hq with rfl | ⟨z1, z2⟩
    · exact c_1
    · rw [z1]; decide
  · refine lv_dload hx hb dL_law_723 (lv_at hl 0 rfl) ?_
    refine lv_dload hx hb dL_law_725 (lv_at hl 0 rfl) ?_
    refine lv_dcmp hx hb dL_law_727 ?_
    refine lv_if_ne (tgt := 733) hx hb dL_law_728 (by decide) (fun _ => kend ls hl) (fun c_3 => ?_)
    refine absurd c_3 ?_
    rcases hq with rfl | ⟨z1, z2⟩
    · exact c_1
    · rw [z2]; decide
