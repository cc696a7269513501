-- the law: written by wip/gen/lgen27.py
def lw_K (p : Program) (s : State) (m : MethodId) (meth : Method) (c : Code) (b L : Nat) (xs : Nat → Int32) (D : va_G) (a : Nat → Nat) (cy : Nat → ClassId) : Prop :=
  lw_At p s m meth c b L xs ∧ va_K D vwCl (m_tc cy) s ∧ m_ZC a s ∧ (∀ q, m_AC a q → s.heap.size ≤ q) ∧ m_inj 138 a
theorem lw_Xd {b L : Nat} {xs : Nat → Int32} {s : State} {H : Heap} {d : Drawn} (h : va_X b L xs s H) : va_X b L xs (s.setDrawn d) H := va_X.moved (u := s) (U := s.setDrawn d) (Vm.Alike.refl s.vm) h
abbrev lw_A0 (s : State) : Nat → Prop := fun q => s.heap.size ≤ q
theorem lw_goodV {own C : String} {idx mL : Nat} {y : MethodName} {bt : ByteArray} {rt : Option FieldType} (h1 : Cond.methodLink own idx y ∈ m_tbl) (h2 : Cond.instanceMethod y ∈ m_tbl) (h3 : Cond.selects C y y ∈ m_tbl) (h4 : Cond.initialized C ∈ m_tbl) (h5 : Cond.code y bt mL rt ∈ m_tbl) : GoodIn lw_tbl (wsV own idx C y (Cond.code y bt mL rt :: m_tbl)) := by
  have h := m_goodV (w0 := Cond.methodLink own idx y) h1 h2 h3 h4 h5
  intro w hw
  obtain ⟨g1, g2⟩ := h w hw
  refine ⟨m_tbl_lw ?_, g2⟩
  rcases List.mem_cons.mp g1 with rfl | g1
  · exact h1
  · exact g1
theorem lw_goodS {own : String} {idx mL : Nat} {y : MethodName} {bt : ByteArray} {rt : Option FieldType} (h1 : Cond.methodLink own idx y ∈ m_tbl) (h2 : Cond.static y ∈ m_tbl) (h4 : Cond.initialized y.cls ∈ m_tbl) (h5 : Cond.code y bt mL rt ∈ m_tbl) : GoodIn lw_tbl (va_wsS own idx y (Cond.code y bt mL rt :: m_tbl)) := by
  have h := m_goodS (w0 := Cond.methodLink own idx y) h1 h2 h4 h5
  intro w hw
  obtain ⟨g1, g2⟩ := h w hw
  refine ⟨m_tbl_lw ?_, g2⟩
  rcases List.mem_cons.mp g1 with rfl | g1
  · exact h1
  · exact g1
/-- what the law reads of its script -/
def lw_cell (xs : Nat → Int32) (L : Nat) (k : Int32) : Int32 := if nI L ≤ k then 42491 * (k + 7) + 1859539 else xs k.toNatClampNeg
abbrev rm_L_cell : Room := { frames := 0, cells := 0, slots := 0, locals := 0 }
abbrev lw_PcC (b L : Nat) (xs : Nat → Int32) (k : Int32) : Array Value → State → Prop := va_Pc [.ref b, .int k] (fun U => va_X b L xs U U.heap ∧ b < U.heap.size)
abbrev lw_QcC (L : Nat) (xs : Nat → Int32) (k : Int32) : Array Value → State → Outcome → State → Prop := va_Qi (S := Unit) (fun r _ => r = lw_cell xs L k) (fun _ _ => True) (fun _ => False)
set_option maxHeartbeats 4000000 in
set_option maxRecDepth 100000 in
theorem c_L_cell (l : Launch) (b L : Nat) (xs : Nat → Int32) (k : Int32) (hL : L ≤ 260) (hk : ¬ k < 0) : Met l yL_cell (Cond.code yL_cell cL_cell 2 (some .int) :: m_tbl) rm_L_cell (lw_PcC b L xs k) (lw_QcC L xs k) 0 0 (fun _ => False) := by
  refine Met.ofW (cc := cL_cell) (maxL := 2) (ret := some .int) hy_L_cell rfl ?_
  intro p e s m args below meth c s₁ B hml hv
  obtain ⟨rfl, hX, hbl⟩ := hv
  have hl := lv_entry [.ref b, .int k] (n := 2) (Nat.le_of_ble_eq_true rfl)
  have hx := B.exec
  have hb := B.bytes
  have hts := atoms_spec (ws := Cond.code yL_cell cL_cell 2 (some .int) :: m_tbl) B.pre
  have hown : s.vm.findClass RL = some m.cls := findClass_of_methodNamed B.named
  have hS : va_S (fun _ => False) s.heap s.heap [] := va_S.rf
  have hbA : ¬ (fun _ : Nat => False) b := fun h => h
  rw [lg_entry_eq]
  generalize (lg_sl ([.ref b, .int k]) ++ List.replicate (2 - (lg_sl ([.ref b, .int k])).length) Slot.unset).toArray = ls at hl ⊢
  have hl : lv_has ls 2 [(0, .ref b), (1, .int k)] := hl
  have hend : ∀ r : Int32, r = lw_cell xs L k → W p l e rm_L_cell s m ([Value.ref b, Value.int k]).toArray below meth c s.heap [] 0 0 (MQ below (lw_QcC L xs k) ([Value.ref b, Value.int k]).toArray s 0 0 (fun _ => False)) (F0 m 22 ls [.int r]) := fun r hr =>
    W.iret hx hb B.returns (fun t ht hW => ⟨⟨r, (), rfl, hr, trivial⟩, hS.F ht⟩) hS.2.2 dL_cell_22 B.notSynchronized
  refine lv_iload_n hx hb dL_cell_0 rfl (lv_at hl 1 rfl) ?_
  refine lv_aload_n hx hb dL_cell_1 rfl (lv_at hl 0 rfl) ?_
  refine va_slen hx hb hX hbl hbA hS dL_cell_2 ?_
  refine lv_icmp_ge (tgt := 12) hx hb dL_cell_3 (by decide) (fun c_1 => ?_) (fun c_1 => ?_)
  · refine lv_ldc (v := 42491) hx hb hown (hts _ (List.mem_cons_of_mem _ wq_L_7)) dL_cell_12 ?_
    refine lv_iload_n hx hb dL_cell_14 rfl (lv_at hl 1 rfl) ?_
    refine lv_bipush (v := 7) hx hb dL_cell_15 (by decide) ?_
    refine lv_iadd hx hb dL_cell_17 ?_
    refine lv_imul hx hb dL_cell_18 ?_
    refine lv_ldc (v := 1859539) hx hb hown (hts _ (List.mem_cons_of_mem _ wq_L_8)) dL_cell_19 ?_
    refine lv_iadd hx hb dL_cell_21 ?_
    refine hend _ ?_
    have c_2 : nI L ≤ k := c_1
    unfold lw_cell
    rw [if_pos c_2]
  · have c_2 : ¬ nI L ≤ k := c_1
    obtain ⟨j, j1, rfl⟩ := nI_of hk
    have j2 : j < L := by
      by_cases q : j < L
      · exact q
      · exact absurd (nI_le (a := L) (b := j) (by omega) j1) c_2
    refine lv_aload_n hx hb dL_cell_6 rfl (lv_at hl 0 rfl) ?_
    refine lv_iload_n hx hb dL_cell_7 rfl (lv_at hl 1 rfl) ?_
    refine va_sld hx hb hX hbl hbA hS (vp_in_nI (by omega) (by omega)) dL_cell_8 ?_
    refine lv_goto (tgt := 22) hx hb dL_cell_9 (by decide) ?_
    refine hend _ ?_
    unfold lw_cell
    rw [if_neg c_2]
section LWC
variable {p : Program} {l : Launch} {e : Env} {s : State} {m : MethodId} {below : List Frame} {meth : Method} {c : Code} {H : Heap} {locs : List Loc} {Q : State → Prop} {b L : Nat} {xs : Nat → Int32} {D : va_G} {a : Nat → Nat} {cy : Nat → ClassId} {pc : Nat} {ls : Array Slot} {X X1 : XT} {d0 : Drawn}
variable {y : MethodName} {rm : Room} {bt : ByteArray} {mL index n : Nat} {rt : Option FieldType} {st : List Value} {r : Int32} {rl : Int64} {q : vw_C} {ad ci i : Nat} {fs : List Value}
theorem lw_fix (K : lw_K p s m meth c b L xs D a cy) (d : Drawn) : CallFix p m c code 19 (s.setDrawn d) #[Value.ref b] lw_tbl RL := ⟨K.1.1, K.1.2.1, K.1.2.2.2.1, K.1.2.2.2.2.1, dr_words K.1.2.2.2.2.2.1 d⟩
theorem lw_PXC (K : lw_K p s m meth c b L xs D a cy) (hPX : va_P D vwCl (m_WC a cy X) H) (hS : va_S (lw_A0 s) s.heap H locs) {U : State} (hU : U.heap = H) (hW : s.vm.Alike U.vm) : m_PX D (m_tc cy) (m_WC a cy) (m_ZC a) X U :=
  ⟨by rw [hU]; exact hPX, va_K.moved hW K.2.1, m_ZC_keep s U hW (fun q h1 _ => by rw [hU]; exact hS.2.1 q h1 (by show ¬ s.heap.size ≤ q; omega)) K.2.2.1⟩
theorem lw_blindC {av : List Value} : FrameBlind (va_Pc av (m_PX D (m_tc cy) (m_WC a cy) (m_ZC a) X)) := fun _ U g mk q => by
  obtain ⟨q0, qP, qK, qZ⟩ := q
  exact ⟨q0, qP, va_K.moved (u := U) (U := U.calling g mk _) (Vm.Alike.refl U.vm) qK, m_ZC_keep U (U.calling g mk _) (Vm.Alike.refl U.vm) (fun _ _ _ => rfl) qZ⟩
theorem lw_callVi (K : lw_K p s m meth c b L xs D a cy) (As rest : List Value) (hM : Met l y (Cond.code y bt mL rt :: m_tbl) rm (va_Pc (.ref ad :: As) (m_PX D (m_tc cy) (m_WC a cy) (m_ZC a) X)) (m_QI D (m_WC a cy) (m_AC a) r X1) 0 0 (m_AC a)) (hG : GoodIn lw_tbl (wsV RL index q.1 y (Cond.code y bt mL rt :: m_tbl))) (hrm : rm.cells = 0 ∧ rm.slots = 0) (hd : y.cls = q.1 ∧ y.cls ≠ "java/lang/invoke/MethodHandle" ∧ y.cls ≠ "java/lang/invoke/VarHandle" ∧ (parseMethodDescriptor y.desc).map (fun d => d.parameters.length) = some n) (hR : rm.frames + 1 ≤ room_1.frames ∧ 8 + (mL + 11) + rm.locals ≤ room_1.locals) (hc : vwCl[ci]? = some q) (he : (m_WC a cy X)[i]? = some (ad, .inr (ci, fs))) (hP : va_P D vwCl (m_WC a cy X) H) (hS : va_S (lw_A0 s) s.heap H locs) (hn : As.length = n) (hsz : ls.size = 19) (hst : st = As.reverse ++ .ref ad :: rest) (hroom : (rest.map fun v => v.category).sum ≤ 8) (hdg : decode code pc = .ok (.invokevirtual index, 3))
    (kk : ∀ (H1 : Heap) (locs1 : List Loc), va_P D vwCl (m_WC a cy X1) H1 → va_S (lw_A0 s) s.heap H1 locs1 → W p l e room_1 (s.setDrawn d0) m #[Value.ref b] below meth c H1 locs1 600000 7302250 Q (F0 m (pc + 3) ls (.int r :: rest))) : W p l e room_1 (s.setDrawn d0) m #[Value.ref b] below meth c H locs 600000 7302250 Q (F0 m pc ls st) := by
  refine va_calli (va_runV (As := As) (rest := rest) (lw_fix K d0) hM (cwV n (lw_fix K d0).2.2.2.2 hG rfl hrm.1 hrm.2 hd hR) ⟨lw_blindC, va_recv K.2.1 hP hc he, fun U hU hW => ⟨rfl, lw_PXC K hP hS hU hW.alike⟩⟩ rfl hn hsz hst (lv_room hroom) hdg ⟨Nat.le_of_ble_eq_true rfl, Nat.le_of_ble_eq_true rfl⟩) hS (fun q _ h => K.2.2.2.1 q h) (fun q h => K.2.2.2.1 q h) (fun r' u t H1 locs1 ht hvm hw' hB hz hk hS1 => ?_)
  obtain ⟨rfl, rfl⟩ := hw'
  rw [ht] at hB
  exact kk H1 locs1 hB hS1
theorem lw_callSi (K : lw_K p s m meth c b L xs D a cy) (As rest : List Value) (hM : Met l y (Cond.code y bt mL rt :: m_tbl) rm (va_Pc As (m_PX D (m_tc cy) (m_WC a cy) (m_ZC a) X)) (m_QI D (m_WC a cy) (m_AC a) r X1) 0 0 (m_AC a)) (hG : GoodIn lw_tbl (va_wsS RL index y (Cond.code y bt mL rt :: m_tbl))) (hrm : rm.cells = 0 ∧ rm.slots = 0) (hd : y.cls ≠ "java/lang/invoke/MethodHandle" ∧ y.cls ≠ "java/lang/invoke/VarHandle" ∧ (parseMethodDescriptor y.desc).map (fun d => d.parameters.length) = some n) (hR : rm.frames + 1 ≤ room_1.frames ∧ 8 + (mL + 11) + rm.locals ≤ room_1.locals) (hP : va_P D vwCl (m_WC a cy X) H) (hS : va_S (lw_A0 s) s.heap H locs) (hn : As.length = n) (hsz : ls.size = 19) (hst : st = As.reverse ++ rest) (hroom : (rest.map fun v => v.category).sum ≤ 8) (hdg : decode code pc = .ok (.invokestatic index, 3))
    (kk : ∀ (H1 : Heap) (locs1 : List Loc), va_P D vwCl (m_WC a cy X1) H1 → va_S (lw_A0 s) s.heap H1 locs1 → W p l e room_1 (s.setDrawn d0) m #[Value.ref b] below meth c H1 locs1 600000 7302250 Q (F0 m (pc + 3) ls (.int r :: rest))) : W p l e room_1 (s.setDrawn d0) m #[Value.ref b] below meth c H locs 600000 7302250 Q (F0 m pc ls st) := by
  refine va_calli (va_runS (As := As) (rest := rest) (lw_fix K d0) hM (va_cwS n (lw_fix K d0).2.2.2.2 hG rfl hrm.1 hrm.2 hd hR) ⟨lw_blindC, fun U hU hW => ⟨rfl, lw_PXC K hP hS hU hW.alike⟩⟩ rfl hn hsz hst (lv_room hroom) hdg ⟨Nat.le_of_ble_eq_true rfl, Nat.le_of_ble_eq_true rfl⟩) hS (fun q _ h => K.2.2.2.1 q h) (fun q h => K.2.2.2.1 q h) (fun r' u t H1 locs1 ht hvm hw' hB hz hk hS1 => ?_)
  obtain ⟨rfl, rfl⟩ := hw'
  rw [ht] at hB
  exact kk H1 locs1 hB hS1
theorem lw_callSl (K : lw_K p s m meth c b L xs D a cy) (As rest : List Value) (hM : Met l y (Cond.code y bt mL rt :: m_tbl) rm (va_Pc As (m_PX D (m_tc cy) (m_WC a cy) (m_ZC a) X)) (m_QL D (m_WC a cy) (m_AC a) rl X1) 0 0 (m_AC a)) (hG : GoodIn lw_tbl (va_wsS RL index y (Cond.code y bt mL rt :: m_tbl))) (hrm : rm.cells = 0 ∧ rm.slots = 0) (hd : y.cls ≠ "java/lang/invoke/MethodHandle" ∧ y.cls ≠ "java/lang/invoke/VarHandle" ∧ (parseMethodDescriptor y.desc).map (fun d => d.parameters.length) = some n) (hR : rm.frames + 1 ≤ room_1.frames ∧ 8 + (mL + 11) + rm.locals ≤ room_1.locals) (hP : va_P D vwCl (m_WC a cy X) H) (hS : va_S (lw_A0 s) s.heap H locs) (hn : As.length = n) (hsz : ls.size = 19) (hst : st = As.reverse ++ rest) (hroom : (rest.map fun v => v.category).sum ≤ 8) (hdg : decode code pc = .ok (.invokestatic index, 3))
    (kk : ∀ (H1 : Heap) (locs1 : List Loc), va_P D vwCl (m_WC a cy X1) H1 → va_S (lw_A0 s) s.heap H1 locs1 → W p l e room_1 (s.setDrawn d0) m #[Value.ref b] below meth c H1 locs1 600000 7302250 Q (F0 m (pc + 3) ls (.long rl :: rest))) : W p l e room_1 (s.setDrawn d0) m #[Value.ref b] below meth c H locs 600000 7302250 Q (F0 m pc ls st) := by
  refine va_calll (va_runS (As := As) (rest := rest) (lw_fix K d0) hM (va_cwS n (lw_fix K d0).2.2.2.2 hG rfl hrm.1 hrm.2 hd hR) ⟨lw_blindC, fun U hU hW => ⟨rfl, lw_PXC K hP hS hU hW.alike⟩⟩ rfl hn hsz hst (lv_room hroom) hdg ⟨Nat.le_of_ble_eq_true rfl, Nat.le_of_ble_eq_true rfl⟩) hS (fun q _ h => K.2.2.2.1 q h) (fun q h => K.2.2.2.1 q h) (fun r' u t H1 locs1 ht hvm hw' hB hz hk hS1 => ?_)
  obtain ⟨rfl, rfl⟩ := hw'
  rw [ht] at hB
  exact kk H1 locs1 hB hS1
theorem lw_callSd (hd0 : s.drawn.sameBut d0 lw_cs) (K : lw_K p s m meth c b L xs D a cy) (As rest : List Value) (hM : MetD lw_cs l y (Cond.code y bt mL rt :: m_tbl) rm (va_Pc As (m_PX D (m_tc cy) (m_WC a cy) (m_ZC a) X)) (m_QI D (m_WC a cy) (m_AC a) r X1) 0 0 (m_AC a)) (hG : GoodIn lw_tbl (va_wsS RL index y (Cond.code y bt mL rt :: m_tbl))) (hrm : rm.cells = 0 ∧ rm.slots = 0) (hd : y.cls ≠ "java/lang/invoke/MethodHandle" ∧ y.cls ≠ "java/lang/invoke/VarHandle" ∧ (parseMethodDescriptor y.desc).map (fun d => d.parameters.length) = some n) (hR : rm.frames + 1 ≤ room_1.frames ∧ 8 + (mL + 11) + rm.locals ≤ room_1.locals) (hP : va_P D vwCl (m_WC a cy X) H) (hS : va_S (lw_A0 s) s.heap H locs) (hn : As.length = n) (hsz : ls.size = 19) (hst : st = As.reverse ++ rest) (hroom : (rest.map fun v => v.category).sum ≤ 8) (hdg : decode code pc = .ok (.invokestatic index, 3))
    (kk : ∀ d1 : Drawn, s.drawn.sameBut d1 lw_cs → ∀ (H1 : Heap) (locs1 : List Loc), va_P D vwCl (m_WC a cy X1) H1 → va_S (lw_A0 s) s.heap H1 locs1 → W p l e room_1 (s.setDrawn d1) m #[Value.ref b] below meth c H1 locs1 600000 7302250 Q (F0 m (pc + 3) ls (.int r :: rest))) : W p l e room_1 (s.setDrawn d0) m #[Value.ref b] below meth c H locs 600000 7302250 Q (F0 m pc ls st) := by
  refine va_calliD hd0 (va_runS_D (As := As) (rest := rest) (lw_fix K d0) hM (va_cwS n (lw_fix K d0).2.2.2.2 hG rfl hrm.1 hrm.2 hd hR) ⟨lw_blindC, fun U hU hW => ⟨rfl, lw_PXC K hP hS hU hW.alike⟩⟩ rfl hn hsz hst (lv_room hroom) hdg ⟨Nat.le_of_ble_eq_true rfl, Nat.le_of_ble_eq_true rfl⟩) hS (fun q _ h => K.2.2.2.1 q h) (fun q h => K.2.2.2.1 q h) (fun r' u t H1 locs1 ht hvm hw' hB hz hk hS1 d1 hd1 => ?_)
  obtain ⟨rfl, rfl⟩ := hw'
  rw [ht] at hB
  exact kk d1 hd1 H1 locs1 hB hS1
theorem lw_blindCell {k : Int32} : FrameBlind (lw_PcC b L xs k) := fun _ U g mk q => by
  obtain ⟨q0, qX, qb⟩ := q
  exact ⟨q0, va_X.moved (u := U) (U := U.calling g mk _) (Vm.Alike.refl U.vm) qX, qb⟩
theorem lw_callCell (hL : L ≤ 260) (K : lw_K p s m meth c b L xs D a cy) (rest : List Value) {k : Int32} (hk : ¬ k < 0) (hP : va_P D vwCl (m_WC a cy X) H) (hS : va_S (lw_A0 s) s.heap H locs) (hsz : ls.size = 19) (hroom : (rest.map fun v => v.category).sum ≤ 8) (hdg : decode code pc = .ok (.invokestatic 124, 3))
    (kk : ∀ y : Int32, y = lw_cell xs L k → ∀ (H1 : Heap) (locs1 : List Loc), va_P D vwCl (m_WC a cy X) H1 → va_S (lw_A0 s) s.heap H1 locs1 → W p l e room_1 (s.setDrawn d0) m #[Value.ref b] below meth c H1 locs1 600000 7302250 Q (F0 m (pc + 3) ls (.int y :: rest))) : W p l e room_1 (s.setDrawn d0) m #[Value.ref b] below meth c H locs 600000 7302250 Q (F0 m pc ls (.int k :: .ref b :: rest)) := by
  have hX := K.1.2.2.2.2.2.2.1
  have hbl := K.1.2.2.2.2.2.2.2.1
  refine va_calli (va_runS (As := [.ref b, .int k]) (rest := rest) (lw_fix K d0) (c_L_cell l b L xs k hL hk) (va_cwS 2 (lw_fix K d0).2.2.2.2 (lw_goodS wl_L_124 wst_L_cell wn_L wc_L_cell) rfl rfl rfl hv_L_cell ⟨Nat.le_of_ble_eq_true rfl, Nat.le_of_ble_eq_true rfl⟩) ⟨lw_blindCell, fun U hU hW => ⟨rfl, ?_, ?_⟩⟩ rfl rfl hsz rfl (lv_room hroom) hdg ⟨Nat.le_of_ble_eq_true rfl, Nat.le_of_ble_eq_true rfl⟩) hS (fun q _ h => absurd h id) (fun q h => absurd h id) (fun r' u t H1 locs1 ht hvm hw' hB hz hk hS1 => ?_)
  · rw [hU]
    exact va_X.kept (va_X.moved (u := s) (U := U) hW.alike hX) (hS.2.1 b hbl (Nat.not_le.mpr hbl))
  · rw [hU]
    exact Nat.lt_of_lt_of_le hbl hS.1
  · exact kk r' hw' H1 locs1 (hP.kept (fun k q hq => hk q.1 (hP k q hq).lt id)) hS1
theorem lw_ist (K : lw_K p s m meth c b L xs D a cy) {f : Nat → Int32} {an N2 : Nat} {rest : List Value} (he : (m_WC a cy X)[i]? = some (an, .inl (cy 0, N2, .inl f))) (hset : ∀ g : Nat → Int32, (m_WC a cy X).set i (an, .inl (cy 0, N2, .inl g)) = m_WC a cy (m_up X i g)) {j x : Int32} (hin : m_in j N2) (hP : va_P D vwCl (m_WC a cy X) H) (hS : va_S (lw_A0 s) s.heap H locs) (hdg : decode code pc = .ok (.iastore, 1))
    (kk : ∀ (H1 : Heap) (locs1 : List Loc), va_P D vwCl (m_WC a cy (m_up X i (upd f j.toNatClampNeg x))) H1 → va_S (lw_A0 s) s.heap H1 locs1 → W p l e room_1 (s.setDrawn d0) m #[Value.ref b] below meth c H1 locs1 600000 7302250 Q (F0 m (pc + 1) ls rest)) : W p l e room_1 (s.setDrawn d0) m #[Value.ref b] below meth c H locs 600000 7302250 Q (F0 m pc ls (.int x :: .int j :: .ref an :: rest)) := by
  have hD : va_D (lw_A0 s) (m_WC a cy X) := (m_wl_D K.2.2.2.2 _ X).weaken (fun k q _ h => K.2.2.2.1 q.1 h)
  refine va_iast K.1.1 K.1.2.1 (va_K.moved (u := s) (U := s.setDrawn d0) (Vm.Alike.refl s.vm) K.2.1) hP hD hS i 0 he rfl hin hdg (fun H1 locs1 h1 _ h3 => ?_)
  rw [hset] at h1
  exact kk H1 locs1 h1 h3
end LWC
