-- the means: methods that may draw (which NaN a quotient is)
def m_mean (r : UInt64) (w n : Int32) : Prop := (n = 0 ∧ r = FP.dconst0) ∨ (¬ n = 0 ∧ alike64 r (FP.ddiv (FP.i2d w) (FP.i2d n)) = true)
abbrev m_QD (D : va_G) (Wf : XT → va_W) (A : Nat → Prop) (w n : Int32) (X0 : XT) : Array Value → State → Outcome → State → Prop := va_Qd (S := XT) (fun r X => m_mean r w n ∧ X = X0) (fun X t => va_P D vwCl (Wf X) t.heap) A
theorem m_Cx_draw {p : Program} {s : State} {m : MethodId} {args : Array Value} {meth : Method} {c : Code} {cc : ByteArray} {nL : Nat} {own : String} {ret : Option FieldType} {w0 : Cond} {D : va_G} {tys : List (ClassId × FieldType)} {A : Nat → Prop} {Wf : XT → va_W} {ZZ : State → Prop} (C : m_Cx p s m args meth c cc nL own ret w0 D tys A Wf ZZ) (d : Drawn) : m_Cx p (s.setDrawn d) m args meth c cc nL own ret w0 D tys A Wf ZZ :=
  ⟨⟨C.1.1, C.1.2.1, C.1.2.2.1, C.1.2.2.2.1, dr_words C.1.2.2.2.2 d⟩, C.2.1, C.2.2.1, C.2.2.2.1, C.2.2.2.2.1, C.2.2.2.2.2.2 s (s.setDrawn d) (Vm.Alike.refl s.vm) (fun _ _ _ => rfl) C.2.2.2.2.2.1, C.2.2.2.2.2.2⟩
section MDW
variable {p : Program} {l : Launch} {e : Env} {R : Room} {s : State} {m : MethodId} {args : Array Value} {below : List Frame} {meth : Method} {c : Code} {H : Heap} {locs : List Loc} {Q : State → Prop}
variable {cc : ByteArray} {pc : Nat} {ls : Array Slot} {rest : List Value} {D : va_G} {tys : List (ClassId × FieldType)} {A : Nat → Prop} {Wf : XT → va_W} {ZZ : State → Prop} {nL : Nat} {own : String} {ret : Option FieldType} {w0 : Cond} {X : XT}
theorem m_metD {y : MethodName} {rm : Room} {bt : ByteArray} {mL : Nat} {rt : Option FieldType} {av : List Value} {Qc : Array Value → State → Outcome → State → Prop} (hy : plainName y.cls = true) (ho : y.cls = own) (hsl : (lg_sl av).length ≤ mL) (hWD : ∀ X, va_D A (Wf X)) (hZk : ∀ u U : State, u.vm.Alike U.vm → (∀ q : Nat, q < u.heap.size → ¬ A q → U.heap[q]? = u.heap[q]?) → ZZ u → ZZ U)
    (body : ∀ (p : Program) (e : Env) (s : State) (m : MethodId) (args : Array Value) (below : List Frame) (meth : Method) (c : Code), m_Cx p s m args meth c bt mL own rt (Cond.code y bt mL rt) D tys A Wf ZZ → s.drawn.sameBut s.drawn lw_cs → ∀ ls : Array Slot, lv_has ls mL (lv_args 0 av) → va_P D vwCl (Wf X) s.heap → va_S A s.heap s.heap [] → W p l e rm (s.setDrawn s.drawn) m args below meth c s.heap [] 0 0 (MQD lw_cs below Qc args s 0 0 A) (F0 m 0 ls [])) : MetD lw_cs l y (Cond.code y bt mL rt :: m_tbl) rm (va_Pc av (m_PX D tys Wf ZZ X)) Qc 0 0 A := by
  subst ho
  refine MetD.ofW (cc := bt) (maxL := mL) (ret := rt) hy rfl ?_
  intro p e s m args below meth c s₁ B hml hv hd0
  obtain ⟨rfl, hP, hK, hZ⟩ := hv
  have hl := lv_entry av (n := mL) hsl
  have h := body p e s m _ below meth c ⟨⟨B.exec, B.bytes, hml, findClass_of_methodNamed B.named, atoms_spec (ws := Cond.code y bt mL rt :: m_tbl) B.pre⟩, B.returns, B.notSynchronized, hK, hWD, hZ, hZk⟩ hd0 _ hl hP va_S.rf
  rw [lg_entry_eq]
  exact h
theorem m_dret {w n : Int32} {r : UInt64} {X0 : XT} {d0 : Drawn} (hd0 : s.drawn.sameBut d0 lw_cs) (C : m_Cx p s m args meth c cc nL own (some .double) w0 D tys A Wf ZZ) (hP : va_P D vwCl (Wf X) H) (hS : va_S A s.heap H locs) (hdg : decode cc pc = .ok (.dreturn, 1)) (hr : m_mean r w n) (hX : X = X0) : W p l e R (s.setDrawn d0) m args below meth c H locs 0 0 (MQD lw_cs below (m_QD D Wf A w n X0) args s 0 0 A) (F0 m pc ls [.double r]) := by
  subst hX
  refine W.endD hd0 ?_
  have hlk := C.2.2.1
  exact W.dret C.1.1 C.1.2.1 C.2.1 (fun t ht hW => ⟨⟨r, X, rfl, ⟨hr, rfl⟩, by show va_P D vwCl (Wf X) t.heap; rw [ht]; exact hP⟩, hS.F ht⟩) hS.2.2 hdg hlk
end MDW
abbrev rm_X3_meanTicks : Room := { frames := 0, cells := 0, slots := 0, locals := 0 }
set_option maxHeartbeats 4000000 in
set_option maxRecDepth 100000 in
theorem c_X3_meanTicks (l : Launch) (D : va_G) (a : Nat → Nat) (cy : Nat → ClassId) (hG : m_inj 138 a) (X : XT) : MetD lw_cs l yX3_meanTicks (Cond.code yX3_meanTicks cX3_meanTicks 2 (some .double) :: m_tbl) rm_X3_meanTicks (va_Pc [.ref (a 0)] (m_PX D (m_tc cy) (m_WC a cy) (m_ZC a) X)) (m_QD D (m_WC a cy) (m_AC a) (X 19 7) (X 19 1) X) 0 0 (m_AC a) := by
  refine m_metD (own := RX3) hy_X3_meanTicks rfl (Nat.le_of_ble_eq_true rfl) (m_wl_D hG _) m_ZC_keep ?_
  intro p e s m args below meth c C0 hd0 ls hl hP hS
  have C := m_Cx_draw C0 s.drawn
  have hx := C0.1.1
  have hb := C0.1.2.1
  have hl : lv_has ls 2 [(0, .ref (a 0))] := hl
  refine lv_aload_n hx hb dX3_meanTicks_0 rfl (lv_at hl 0 rfl) ?_
  refine m_get C hP mC_0 rfl inX3 4 (by decide) wf_X3_39 rfl dX3_meanTicks_1 ?_
  refine lv_iconst (v := 1) hx hb dX3_meanTicks_4 (by decide) ?_
  refine m_ild C hP mC_19 0 rfl (by decide) dX3_meanTicks_5 (fun y_1 e_1 => ?_)
  refine lv_istore_n (lv' := [(1, .int y_1), (0, .ref (a 0))]) hx hb dX3_meanTicks_6 rfl hl (by decide) rfl (fun ls hl => ?_)
  refine lv_iload_n hx hb dX3_meanTicks_7 rfl (lv_at hl 0 rfl) ?_
  have e1 : y_1 = X 19 1 := e_1
  refine lv_if_ne (tgt := 15) hx hb dX3_meanTicks_8 (by decide) (fun c_1 => ?_) (fun c_1 => ?_)
  · refine lv_aload_n hx hb dX3_meanTicks_15 rfl (lv_at hl 1 rfl) ?_
    refine m_get C hP mC_0 rfl inX3 4 (by decide) wf_X3_39 rfl dX3_meanTicks_16 ?_
    refine lv_bipush (v := 7) hx hb dX3_meanTicks_19 (by decide) ?_
    refine m_ild C hP mC_19 0 rfl (by decide) dX3_meanTicks_21 (fun y_2 e_2 => ?_)
    have e2 : y_2 = X 19 7 := e_2
    refine lv_i2d hx hb dX3_meanTicks_22 ?_
    refine lv_iload_n hx hb dX3_meanTicks_23 rfl (lv_at hl 0 rfl) ?_
    refine lv_i2d hx hb dX3_meanTicks_24 ?_
    refine lv_ddiv_any hd0 lw_bits hx hb dX3_meanTicks_25 (fun r d1 hal hd1 => ?_)
    exact m_dret hd1 C0 hP hS dX3_meanTicks_26 (Or.inr ⟨by rw [← e1]; exact c_1, by rw [← e1, ← e2]; exact hal⟩) rfl
  · refine lv_dconst0 hx hb dX3_meanTicks_11 ?_
    refine lv_goto (tgt := 26) hx hb dX3_meanTicks_12 (by decide) ?_
    exact m_dret hd0 C0 hP hS dX3_meanTicks_26 (Or.inl ⟨by rw [← e1]; exact c_1, rfl⟩) rfl
abbrev rm_X7_mean : Room := { frames := 1, cells := 0, slots := 0, locals := 21 }
set_option maxHeartbeats 4000000 in
set_option maxRecDepth 100000 in
theorem c_X7_mean (l : Launch) (D : va_G) (a : Nat → Nat) (cy : Nat → ClassId) (hG : m_inj 138 a) (X : XT) : MetD lw_cs l yX7_mean (Cond.code yX7_mean cX7_mean 1 (some .double) :: m_tbl) rm_X7_mean (va_Pc [.ref (a 126)] (m_PX D (m_tc cy) (m_WC a cy) (m_ZC a) X)) (m_QD D (m_WC a cy) (m_AC a) (X 19 7) (X 19 1) X) 0 0 (m_AC a) := by
  refine m_metD (own := RX7) hy_X7_mean rfl (Nat.le_of_ble_eq_true rfl) (m_wl_D hG _) m_ZC_keep ?_
  intro p e s m args below meth c C0 hd0 ls hl hP hS
  have C := m_Cx_draw C0 s.drawn
  have hx := C0.1.1
  have hb := C0.1.2.1
  have hl : lv_has ls 1 [(0, .ref (a 126))] := hl
  refine lv_aload_n hx hb dX7_mean_0 rfl (lv_at hl 0 rfl) ?_
  refine m_get C hP mC_126 rfl inX7 0 (by decide) wf_X7_10 rfl dX7_mean_1 ?_
  refine va_calldD hd0 (va_runV_D (As := []) (rest := []) C.1 (c_X3_meanTicks l D a cy hG X) (cwV 0 C.1.2.2.2.2 (m_goodV wl_X7_162 wi_X3_meanTicks ws_X3_meanTicks wn_X3 wc_X3_meanTicks) rfl rfl rfl hv_X3_meanTicks ⟨Nat.le_of_ble_eq_true rfl, Nat.le_of_ble_eq_true rfl⟩) ⟨m_blind C, va_recv (ci := 3) (q := (RX3, TX3, 12)) C.2.2.2.1 hP rfl mC_0, fun U hU hW => ⟨rfl, m_PX_pass C hP hS hU hW⟩⟩ rfl rfl hl.1 rfl (lv_room (Nat.le_of_ble_eq_true rfl)) dX7_mean_4 ⟨Nat.zero_le _, Nat.zero_le _⟩) hS (fun q _ h => h) (fun q h => h) (fun r u t H1 locs1 ht hvm hw hB hz hk hS1 d1 hd1 => ?_)
  obtain ⟨hw, rfl⟩ := hw
  rw [ht] at hB
  exact m_dret hd1 C0 hB hS1 dX7_mean_7 hw rfl
theorem m_zretD {ty : FieldType} {p : Program} {l : Launch} {e : Env} {R : Room} {s : State} {m : MethodId} {args : Array Value} {below : List Frame} {meth : Method} {c : Code} {H : Heap} {locs : List Loc} {cc : ByteArray} {pc : Nat} {ls : Array Slot} {D : va_G} {tys : List (ClassId × FieldType)} {A : Nat → Prop} {Wf : XT → va_W} {ZZ : State → Prop} {nL : Nat} {own : String} {w0 : Cond} {X : XT} {r r0 : Int32} {X0 : XT} {d0 : Drawn} (hd0 : s.drawn.sameBut d0 lw_cs) (C : m_Cx p s m args meth c cc nL own (some ty) w0 D tys A Wf ZZ) (hP : va_P D vwCl (Wf X) H) (hS : va_S A s.heap H locs) (hdg : decode cc pc = .ok (.ireturn, 1)) (hn : narrow ty (.int r) = .int r) (e1 : some (r, X) = some (r0, X0)) : W p l e R (s.setDrawn d0) m args below meth c H locs 0 0 (MQD lw_cs below (m_QI D Wf A r0 X0) args s 0 0 A) (F0 m pc ls [.int r]) := by
  cases e1
  refine W.endD hd0 ?_
  have hlk := C.2.2.1
  exact W.zret C.1.1 C.1.2.1 C.2.1 hn (fun t ht hW => ⟨⟨r, X, rfl, ⟨rfl, rfl⟩, by show va_P D vwCl (Wf X) t.heap; rw [ht]; exact hP⟩, hS.F ht⟩) hS.2.2 hdg hlk
theorem m_cmp_eq {v : UInt64} {op : CmpOp} (h : FP.Core.val64 v ≠ .nan) : Op.cmpValue (FP.dcmp v v) op = 0 := by
  rw [m_num_nn h]
  cases op <;> rfl
set_option maxHeartbeats 4000000 in
set_option maxRecDepth 100000 in
/-- the comparison of means in isSo, where both are asked of the same numbers -/
theorem m_soMean {p : Program} {l : Launch} {e : Env} {R : Room} {s : State} {m : MethodId} {args : Array Value} {below : List Frame} {meth : Method} {c : Code} {H : Heap} {locs : List Loc} {Q : State → Prop} {ls : Array Slot} {D : va_G} {a : Nat → Nat} {cy : Nat → ClassId} {w0 : Cond} {X : XT} {d0 : Drawn} {lv : List (Nat × Value)} (hG : m_inj 138 a) (hR : rm_X7_mean.frames + 1 ≤ R.frames ∧ 8 + (1 + 11) + rm_X7_mean.locals ≤ R.locals) (hd0 : s.drawn.sameBut d0 lw_cs) (C0 : m_Cx p s m args meth c cL_isSo 16 RL (some .boolean) w0 D (m_tc cy) (m_AC a) (m_WC a cy) (m_ZC a)) (hl : lv_has ls 16 lv) (hP : va_P D vwCl (m_WC a cy X) H) (hS : va_S (m_AC a) s.heap H locs) (hg : X 19 7 = X 131 16 ∧ X 19 1 = X 131 11) (h2 : ls[2]? = some (.val (.ref (a 131))))
    (kk : ∀ d1 : Drawn, s.drawn.sameBut d1 lw_cs → ∀ (H1 : Heap) (locs1 : List Loc), va_P D vwCl (m_WC a cy X) H1 → va_S (m_AC a) s.heap H1 locs1 → W p l e R (s.setDrawn d1) m args below meth c H1 locs1 0 0 Q (F0 m 385 ls [])) : W p l e R (s.setDrawn d0) m args below meth c H locs 0 0 Q (F0 m 356 ls [.ref (a 126)]) := by
  have C := m_Cx_draw C0 d0
  have hx := C.1.1
  have hb := C.1.2.1
  refine va_calldD hd0 (va_runV_D (As := []) (rest := []) C.1 (c_X7_mean l D a cy hG X) (cwV 0 C.1.2.2.2.2 (m_goodV wl_L_113 wi_X7_mean ws_X7_mean wn_X7 wc_X7_mean) rfl rfl rfl hv_X7_mean ⟨hR.1, hR.2⟩) ⟨m_blind C, va_recv (ci := 7) (q := (RX7, TX7, 5)) C.2.2.2.1 hP rfl mC_126, fun U hU hW => ⟨rfl, m_PX_pass C hP hS hU hW⟩⟩ rfl rfl hl.1 rfl (lv_room (Nat.le_of_ble_eq_true rfl)) dL_isSo_356 ⟨Nat.zero_le _, Nat.zero_le _⟩) hS (fun q _ h => h) (fun q h => h) (fun r u t H1 locs1 ht hvm hw hB hz hk hS1 d1 hd1 => ?_)
  obtain ⟨hw, rfl⟩ := hw
  rw [ht] at hB
  have C1 := m_Cx_draw C0 d1
  refine lv_aload_n hx hb dL_isSo_359 rfl h2 ?_
  refine lv_bipush (v := 11) hx hb dL_isSo_360 (by decide) ?_
  refine m_ild C1 hB mC_131 0 rfl (by decide) dL_isSo_362 (fun y_1 e_1 => ?_)
  have e1 : y_1 = u 19 1 := e_1.trans hg.2.symm
  have key : ∀ v : UInt64, FP.Core.val64 v ≠ .nan → r = v → W p l e R (s.setDrawn d1) m args below meth c H1 locs1 0 0 Q (F0 m 381 ls [.double v, .double r]) := by
    intro v hv hr
    subst hr
    refine lv_dcmp hx hb dL_isSo_381 ?_
    refine lv_if_ne (tgt := 389) hx hb dL_isSo_382 (by decide) (fun c_1 => absurd (m_cmp_eq hv) c_1) (fun _ => ?_)
    exact kk d1 hd1 H1 locs1 hB hS1
  refine lv_if_ne (tgt := 370) hx hb dL_isSo_363 (by decide) (fun c_1 => ?_) (fun c_1 => ?_)
  · refine lv_aload_n hx hb dL_isSo_370 rfl h2 ?_
    refine lv_bipush (v := 16) hx hb dL_isSo_371 (by decide) ?_
    refine m_ild C1 hB mC_131 0 rfl (by decide) dL_isSo_373 (fun y_2 e_2 => ?_)
    have e2 : y_2 = u 19 7 := e_2.trans hg.1.symm
    refine lv_i2d hx hb dL_isSo_374 ?_
    refine lv_aload_n hx hb dL_isSo_375 rfl h2 ?_
    refine lv_bipush (v := 11) hx hb dL_isSo_376 (by decide) ?_
    refine m_ild C1 hB mC_131 0 rfl (by decide) dL_isSo_378 (fun y_3 e_3 => ?_)
    have e3 : y_3 = u 19 1 := e_3.trans hg.2.symm
    refine lv_i2d hx hb dL_isSo_379 ?_
    have hn : y_3 ≠ 0 := by rw [e3, ← e1]; exact c_1
    have hnn := m_num_div (w := y_2) hn
    refine lv_ddiv hx hb dL_isSo_380 (m_num_vf hnn) ?_
    refine key _ hnn ?_
    rcases hw with ⟨q1, _⟩ | ⟨_, q2⟩
    · exact absurd (e1.trans q1) c_1
    · rw [← e2, ← e3] at q2
      exact m_num_alike hnn q2
  · refine lv_dconst0 hx hb dL_isSo_366 ?_
    refine lv_goto (tgt := 381) hx hb dL_isSo_367 (by decide) ?_
    have e : FP.Core.val64 FP.dconst0 = .fin false 0 FP.Core.b64.qmin := FP.Core.val64_dconst0
    refine key _ (by rw [e]; exact FP.Core.Datum.noConfusion) ?_
    have c_2 : y_1 = 0 := c_1
    rcases hw with ⟨_, q2⟩ | ⟨q1, _⟩
    · exact q2
    · exact absurd (e1.symm.trans c_2) q1
