-- rows for constructors: the world is a list of cells that grows
def m_An (h0 sz : Nat) : Nat → Prop := fun q => q = h0 ∨ sz ≤ q
def m_first (j : Nat) : Int32 := if j = 0 then 6 else if j = 1 then 16 else if j = 2 then 4 else 1
def m_ZI (A : Nat → Prop) (s : State) : Prop := (va_Nw (.methodLinkNest RX3 11 yX0_init "GroupCommits") s ∧ va_Nw (.methodLinkNest RX3 20 yX1_init "GroupCommits") s ∧ va_Nw (.methodLinkNest RX3 27 yX4_init "GroupCommits") s ∧ va_Nw (.methodLinkNest RX7 28 yX5_init "GroupCommits") s ∧ va_AO "GroupCommits$Log" s) ∧ ∃ t : Nat, va_Z "GroupCommits$Settings" "FIRST" "[I" (.ref t) A s s.heap ∧ va_T .int t 4 (fun j => .int (m_first j)) A s s.heap
def m_PI (D : va_G) (cy : Nat → ClassId) (h0 sz : Nat) (e0 : va_E) (U : State) : Prop := U.heap.size = sz ∧ va_P D vwCl [(h0, e0)] U.heap ∧ va_K D vwCl (m_tc cy) U ∧ m_ZI (m_An h0 sz) U
abbrev m_QN {σ : Type} (D : va_G) (Wp : σ → va_W) (A : Nat → Prop) : Array Value → State → Outcome → State → Prop := va_Qv (S := σ) (fun _ => True) (fun u t => va_P D vwCl (Wp u) t.heap ∧ va_D A (Wp u)) A
def m_Ci (p : Program) (s : State) (m : MethodId) (args : Array Value) (meth : Method) (c : Code) (cc : ByteArray) (nL : Nat) (own : String) (w0 : Cond) (D : va_G) (cy : Nat → ClassId) (A : Nat → Prop) : Prop :=
  CallFix p m c cc nL s args (w0 :: m_tbl) own ∧ meth.sig.returnType = none ∧ meth.locks = false ∧ meth.name = "<init>" ∧ va_K D vwCl (m_tc cy) s ∧ m_ZI A s ∧ (∀ q : Nat, s.heap.size ≤ q → A q)
theorem m_RA_inj {s : State} {cA cB : ClassId} {ty : FieldType} (h1 : va_RA s cA ty) (h2 : va_RA s cB ty) : cA = cB := by
  cases ty with
  | object C =>
    obtain ⟨_, _, _, _, _, h4⟩ := h1
    obtain ⟨_, _, _, _, _, g4⟩ := h2
    exact Option.some.inj (h4.symm.trans g4)
  | _ => exact Option.some.inj (Eq.trans (Eq.symm h1) h2)
theorem m_ZI_pass {A B : Nat → Prop} {s U : State} {H : Heap} {locs : List Loc} (h : m_ZI A s) (hS : va_S A s.heap H locs) (hU : U.heap = H) (hW : s.WarmedH U.vm) (hAB : ∀ q, B q → A q) : m_ZI B U := by
  obtain ⟨⟨h1, h2, h3, h4, h5⟩, t, h6, h7⟩ := h
  have hq : ∀ a : Nat, a < s.heap.size → ¬ A a → U.heap[a]? = s.heap[a]? := fun a g1 g2 => by rw [hU]; exact hS.2.1 a g1 g2
  exact ⟨⟨va_Nw.warmM hW h1, va_Nw.warmM hW h2, va_Nw.warmM hW h3, va_Nw.warmM hW h4, va_AO.moved hW.alike h5⟩, t, ((va_Z.moved hW.alike h6).kept hq).narrow hAB, ((va_T.moved hW.alike h7).kept hq).narrow hAB⟩
/-- behind a constructor's call: the other cells, and what it made -/
theorem m_joinL {D : va_G} {A0 : Nat → Prop} {wr w1 : va_W} {l : Nat} {e : va_E} {H H1 : Heap} (hP : va_P D vwCl (wr ++ [(l, e)]) H) (hD : va_D A0 (wr ++ [(l, e)])) (hk : ∀ q : Nat, q < H.size → ¬ m_An l H.size q → H1[q]? = H[q]?) (hF : ∀ q, m_An l H.size q → A0 q) (hP1 : va_P D vwCl w1 H1) (hD1 : va_D (m_An l H.size) w1) : va_P D vwCl (wr ++ w1) H1 ∧ va_D A0 (wr ++ w1) := by
  have at1 : ∀ (k : Nat) (q : Nat × va_E), wr[k]? = some q → (wr ++ [(l, e)])[k]? = some q := fun k q h => by
    rw [List.getElem?_append_left (List.getElem?_eq_some_iff.mp h).1]; exact h
  have atl : (wr ++ [(l, e)])[wr.length]? = some (l, e) := by simp
  have apart : ∀ (k : Nat) (q : Nat × va_E), wr[k]? = some q → q.1 < H.size ∧ ¬ m_An l H.size q.1 := by
    intro k q hq
    have hl := (hP k q (at1 k q hq)).lt
    refine ⟨hl, fun h => ?_⟩
    rcases h with h | h
    · have := hD.1 k wr.length q (l, e) (at1 k q hq) atl h
      have h2 := (List.getElem?_eq_some_iff.mp hq).1
      omega
    · omega
  refine ⟨va_P.app (fun k q hq => ?_) hP1, va_D.app ⟨fun i j p q hp hq h => hD.1 i j p q (at1 i p hp) (at1 j q hq) h, fun k q hq => hD.2 k q (at1 k q hq)⟩ (hD1.weaken (fun k q _ h => hF q.1 h)) (fun i j x y hx hy hxy => ?_)⟩
  · obtain ⟨g1, g2⟩ := apart k q hq
    exact (hP k q (at1 k q hq)).kept (hk q.1 g1 g2)
  · exact (apart i x hx).2 (by rw [hxy]; exact hD1.2 j y hy)
section IKW
variable {p : Program} {l : Launch} {e : Env} {R : Room} {s : State} {m : MethodId} {args : Array Value} {below : List Frame} {meth : Method} {c : Code} {H : Heap} {locs : List Loc} {cells slots : Nat} {Q : State → Prop}
variable {cc : ByteArray} {pc : Nat} {ls : Array Slot} {rest : List Value} {D : va_G} {cy : Nat → ClassId} {A : Nat → Prop} {nL : Nat} {own : String} {w0 : Cond} {ws : va_W}
theorem i_cw (C : m_Ci p s m args meth c cc nL own w0 D cy A) {w : Cond} (h : w ∈ m_tbl) : w.before args s = true := C.1.2.2.2.2 w (List.mem_cons_of_mem _ h)
theorem i_obj (C : m_Ci p s m args meth c cc nL own w0 D cy A) {idx a : Nat} (hl : Cond.methodLink own idx objectInit ∈ m_tbl) (hsz : ls.size = nL) (hdg : decode cc pc = .ok (.invokespecial idx, 3)) (hf : 1 ≤ R.frames) (hr : (rest.map fun v => v.category).sum + 12 ≤ R.locals) (kk : W p l e R s m args below meth c H locs cells slots Q (F0 m (pc + 3) ls rest)) : W p l e R s m args below meth c H locs cells slots Q (F0 m pc ls (.ref a :: rest)) :=
  W.objInit C.1.1 C.1.2.1 C.1.2.2.2.1 (i_cw C hl) (i_cw C wi_objectInit) (i_cw C wc_objectInit) rfl (hsz.trans C.1.2.2.1.symm) rfl hdg hf (by show 2 * 0 + _ + 12 ≤ _; omega) kk
theorem i_putF (C : m_Ci p s m args meth c cc nL own w0 D cy A) (hP : va_P D vwCl ws H) (hD : va_D A ws) (hS : va_S A s.heap H locs) (q0 : Nat) {a ci : Nat} {fs : List Value} (he : ws[q0]? = some (a, .inr (ci, fs))) {Cn : String} {T : u_T} {N index : Nat} (hc : vwCl[ci]? = some (Cn, T, N)) (hin : ∀ w ∈ u_ws Cn T N, w ∈ m_tbl) {ty0 : Nat → FieldType} (hty : ∀ k, k < N → parseFieldDescriptor (T k).2.2.1 = some (ty0 k)) (hnm : ∀ a, a < N → ∀ b, b < N → a ≠ b → (T a).2.1 ≠ (T b).2.1) (k : Nat) (hk : k < N) (hlink : Cond.fieldLink own index (T k).1 (T k).2.1 (T k).2.2.1 ∈ m_tbl) (hfin : (T k).2.2.2 = true) (hdecl : (T k).1 = own) {v : Value} (hn : narrow (ty0 k) v = v) (hfit : fits (ty0 k) v = true) (hl : k < fs.length) (hdg : decode cc pc = .ok (.putfield index, 3))
    (kk : ∀ (H1 : Heap) (locs1 : List Loc), va_P D vwCl (ws.set q0 (a, .inr (ci, fs.set k v))) H1 → va_D A (ws.set q0 (a, .inr (ci, fs.set k v))) → va_S A s.heap H1 locs1 → W p l e R s m args below meth c H1 locs1 cells slots Q (F0 m (pc + 3) ls rest)) : W p l e R s m args below meth c H locs cells slots Q (F0 m pc ls (v :: .ref a :: rest)) :=
  va_putF C.1.1 C.1.2.1 C.1.2.2.2.2 (m_ci hin) ty0 hty hnm C.1.2.2.2.1 C.2.2.2.2.1 hP hD hS q0 he hc k hk (i_cw C hlink) (fun _ h => h) hfin C.2.2.2.1 hdecl (hty k hk) hn hfit hl hdg kk
theorem i_put (C : m_Ci p s m args meth c cc nL own w0 D cy A) (hP : va_P D vwCl ws H) (hD : va_D A ws) (hS : va_S A s.heap H locs) (q0 : Nat) {a ci : Nat} {fs : List Value} (he : ws[q0]? = some (a, .inr (ci, fs))) {Cn : String} {T : u_T} {N index : Nat} (hc : vwCl[ci]? = some (Cn, T, N)) (hin : ∀ w ∈ u_ws Cn T N, w ∈ m_tbl) {ty0 : Nat → FieldType} (hty : ∀ k, k < N → parseFieldDescriptor (T k).2.2.1 = some (ty0 k)) (hnm : ∀ a, a < N → ∀ b, b < N → a ≠ b → (T a).2.1 ≠ (T b).2.1) (k : Nat) (hk : k < N) (hlink : Cond.fieldLink own index (T k).1 (T k).2.1 (T k).2.2.1 ∈ m_tbl) (hfin : (T k).2.2.2 = false) {v : Value} (hn : narrow (ty0 k) v = v) (hfit : fits (ty0 k) v = true) (hl : k < fs.length) (hdg : decode cc pc = .ok (.putfield index, 3))
    (kk : ∀ (H1 : Heap) (locs1 : List Loc), va_P D vwCl (ws.set q0 (a, .inr (ci, fs.set k v))) H1 → va_D A (ws.set q0 (a, .inr (ci, fs.set k v))) → va_S A s.heap H1 locs1 → W p l e R s m args below meth c H1 locs1 cells slots Q (F0 m (pc + 3) ls rest)) : W p l e R s m args below meth c H locs cells slots Q (F0 m pc ls (v :: .ref a :: rest)) :=
  va_put C.1.1 C.1.2.1 C.1.2.2.2.2 (m_ci hin) ty0 hty hnm C.1.2.2.2.1 C.2.2.2.2.1 hP hD hS q0 he hc k hk (i_cw C hlink) (fun _ h => h) hfin (hty k hk) hn hfit hl hdg kk
theorem i_get (C : m_Ci p s m args meth c cc nL own w0 D cy A) (hP : va_P D vwCl ws H) (q0 : Nat) {a ci : Nat} {fs : List Value} (he : ws[q0]? = some (a, .inr (ci, fs))) {Cn : String} {T : u_T} {N index : Nat} (hc : vwCl[ci]? = some (Cn, T, N)) (hin : ∀ w ∈ u_ws Cn T N, w ∈ m_tbl) (k : Nat) (hk : k < N) (hlink : Cond.fieldLink own index (T k).1 (T k).2.1 (T k).2.2.1 ∈ m_tbl) {v : Value} (hv : fs[k]? = some v) (hdg : decode cc pc = .ok (.getfield index, 3))
    (kk : W p l e R s m args below meth c H locs cells slots Q (F0 m (pc + 3) ls (v :: rest))) : W p l e R s m args below meth c H locs cells slots Q (F0 m pc ls (.ref a :: rest)) :=
  va_get C.1.1 C.1.2.1 C.1.2.2.2.2 (m_ci hin) C.1.2.2.2.1 C.2.2.2.2.1 hP q0 he hc k hk (i_cw C hlink) (fun _ h => h) hv hdg kk
theorem i_ist (C : m_Ci p s m args meth c cc nL own w0 D cy A) (hP : va_P D vwCl ws H) (hD : va_D A ws) (hS : va_S A s.heap H locs) (q0 : Nat) {a n : Nat} {f : Nat → Int32} (he : ws[q0]? = some (a, .inl (cy 0, n, .inl f))) {j x : Int32} (hin : m_in j n) (hdg : decode cc pc = .ok (.iastore, 1))
    (kk : ∀ (H1 : Heap) (locs1 : List Loc), va_P D vwCl (ws.set q0 (a, .inl (cy 0, n, .inl (upd f j.toNatClampNeg x)))) H1 → va_D A (ws.set q0 (a, .inl (cy 0, n, .inl (upd f j.toNatClampNeg x)))) → va_S A s.heap H1 locs1 → W p l e R s m args below meth c H1 locs1 cells slots Q (F0 m (pc + 1) ls rest)) : W p l e R s m args below meth c H locs cells slots Q (F0 m pc ls (.int x :: .int j :: .ref a :: rest)) :=
  va_iast C.1.1 C.1.2.1 C.2.2.2.2.1 hP hD hS q0 0 he rfl hin hdg kk
theorem i_ast (C : m_Ci p s m args meth c cc nL own w0 D cy A) (hP : va_P D vwCl ws H) (hD : va_D A ws) (hS : va_S A s.heap H locs) (q0 qk : Nat) {a n v : Nat} {f : Nat → Option Nat} {vs : List Value} (he : ws[q0]? = some (a, .inl (cy 3, n, .inr (.inr (.inr (.inr f)))))) (hv : ws[qk]? = some (v, .inr (3, vs))) {j : Int32} (hin : m_in j n) (hdg : decode cc pc = .ok (.aastore, 1))
    (kk : ∀ (H1 : Heap) (locs1 : List Loc), va_P D vwCl (ws.set q0 (a, .inl (cy 3, n, .inr (.inr (.inr (.inr (va_up f j.toNatClampNeg (some v)))))))) H1 → va_D A (ws.set q0 (a, .inl (cy 3, n, .inr (.inr (.inr (.inr (va_up f j.toNatClampNeg (some v)))))))) → va_S A s.heap H1 locs1 → W p l e R s m args below meth c H1 locs1 cells slots Q (F0 m (pc + 1) ls rest)) : W p l e R s m args below meth c H locs cells slots Q (F0 m pc ls (.ref v :: .int j :: .ref a :: rest)) :=
  va_astq C.1.1 C.1.2.1 C.2.2.2.2.1 hP hD hS q0 3 qk 3 (r := (RX3, TX3, 12)) he rfl hv rfl hin hdg kk
theorem i_newa (C : m_Ci p s m args meth c cc nL own w0 D cy A) (hP : va_P D vwCl ws H) (hD : va_D A ws) (hS : va_S A s.heap H locs) {atype : ArrayType} {ty : FieldType} (t0 : Nat) (hwa : Cond.arrayClass (newarray.typeOf atype) ∈ m_tbl) (hty : newarray.typeOf atype = ty) (ht : (m_tc cy)[t0]? = some (cy t0, ty)) {n : Int32} {N' : Nat} (ha : ∀ cA : ClassId, vp_cell cA (N', .inl (fun _ => 0)) = arrV cA N' (fun _ => defaultValue ty)) (hn : ¬ n < 0) (hN : n.toNatClampNeg = N') (hbytes : N' * componentBytes ty ≤ 536870912) (hcells : cells + 1 ≤ R.cells) (hslots : slots + N' ≤ R.slots) (hdg : decode cc pc = .ok (.newarray atype, 2))
    (kk : ∀ (q : Nat) (H1 : Heap), va_P D vwCl (ws ++ [(q, .inl (cy t0, N', .inl (fun _ => 0)))]) H1 → va_D A (ws ++ [(q, .inl (cy t0, N', .inl (fun _ => 0)))]) → va_S A s.heap H1 locs → W p l e R s m args below meth c H1 locs (cells + 1) (slots + N') Q (F0 m (pc + 2) ls (.ref q :: rest))) : W p l e R s m args below meth c H locs cells slots Q (F0 m pc ls (.int n :: rest)) := by
  refine va_newa C.1.1 C.1.2.1 (i_cw C hwa) hty C.2.2.2.2.1 hP hD hS C.2.2.2.2.2.2 ha hn hN hbytes hcells hslots hdg (fun q cA H1 hK1 h1 h2 h3 => ?_)
  have e1 : cA = cy t0 := by
    have g1 := (hK1.2 (m_tc cy).length (cA, ty) (by simp)).2
    have g2 := (C.2.2.2.2.1.2 t0 _ ht).2
    exact m_RA_inj g1 g2
  subst e1
  exact kk q H1 h1 h2 h3
theorem i_newq (C : m_Ci p s m args meth c cc nL own w0 D cy A) (hP : va_P D vwCl ws H) (hD : va_D A ws) (hS : va_S A s.heap H locs) {index : Nat} (hlink : Cond.classLink own index RX3 ∈ m_tbl) {n : Int32} {N' : Nat} (hn : ¬ n < 0) (hN : n.toNatClampNeg = N') (hbytes : N' * 4 ≤ 536870912) (hcells : cells + 1 ≤ R.cells) (hslots : slots + N' ≤ R.slots) (hdg : decode cc pc = .ok (.anewarray index, 3))
    (kk : ∀ (q : Nat) (H1 : Heap), va_P D vwCl (ws ++ [(q, .inl (cy 3, N', .inr (.inr (.inr (.inr (fun _ => none))))))]) H1 → va_D A (ws ++ [(q, .inl (cy 3, N', .inr (.inr (.inr (.inr (fun _ => none))))))]) → va_S A s.heap H1 locs → W p l e R s m args below meth c H1 locs (cells + 1) (slots + N') Q (F0 m (pc + 3) ls (.ref q :: rest))) : W p l e R s m args below meth c H locs cells slots Q (F0 m pc ls (.int n :: rest)) := by
  refine va_newq C.1.1 C.1.2.1 C.1.2.2.2.1 (i_cw C hlink) C.2.2.2.2.2.1.1.2.2.2.2 C.2.2.2.2.1 hP hD hS C.2.2.2.2.2.2 hn hN hbytes hcells hslots hdg (fun q cA H1 hK1 h1 h2 h3 => ?_)
  have e1 : cA = cy 3 := by
    have g1 := (hK1.2 (m_tc cy).length (cA, .object RX3) (by simp)).2
    have g2 := (C.2.2.2.2.1.2 3 _ rfl).2
    exact m_RA_inj g1 g2
  subst e1
  exact kk q H1 h1 h2 h3
theorem i_new (C : m_Ci p s m args meth c cc nL own w0 D cy A) (hP : va_P D vwCl ws H) (hD : va_D A ws) (hS : va_S A s.heap H locs) {ci : Nat} {Cn : String} {T : u_T} {N index : Nat} (hc : vwCl[ci]? = some (Cn, T, N)) (hin : ∀ w ∈ u_ws Cn T N, w ∈ m_tbl) {ty0 : Nat → FieldType} (hty : ∀ k, k < N → parseFieldDescriptor (T k).2.2.1 = some (ty0 k)) (hk1 : Cond.classLink own index Cn ∈ m_tbl) (hk2 : Cond.instantiable Cn N ∈ m_tbl) (hk3 : Cond.initialized Cn ∈ m_tbl) {fs : List Value} (hfs : ∀ j, j < N → defaultValue (ty0 j) = vp_V fs j) (hcells : cells + 1 ≤ R.cells) (hslots : slots + N ≤ R.slots) (hdg : decode cc pc = .ok (.new index, 3))
    (kk : ∀ (q : Nat) (H1 : Heap), va_P D vwCl (ws ++ [(q, .inr (ci, fs))]) H1 → va_D A (ws ++ [(q, .inr (ci, fs))]) → va_S A s.heap H1 locs → W p l e R s m args below meth c H1 locs (cells + 1) (slots + N) Q (F0 m (pc + 3) ls (.ref q :: rest))) : W p l e R s m args below meth c H locs cells slots Q (F0 m pc ls rest) :=
  va_new C.1.1 C.1.2.1 C.1.2.2.2.2 (m_ci hin) ty0 hty C.1.2.2.2.1 (i_cw C hk1) (i_cw C hk2) (i_cw C hk3) C.2.2.2.2.1 hP hD hS C.2.2.2.2.2.2 hc hfs hcells hslots hdg kk
theorem i_copyT (C : m_Ci p s m args meth c cc nL own w0 D cy A) (hP : va_P D vwCl ws H) (hD : va_D A ws) (hS : va_S A s.heap H locs) (hsz : ls.size = nL) {index : Nat} (hl1 : Cond.methodLink own index arraycopyName ∈ m_tbl) {t N : Nat} {f : Nat → Int32} (hT : va_T .int t N (fun j => .int (f j)) A s s.heap) (q1 : Nat) {a n1 : Nat} {g : Nat → Int32} (he : ws[q1]? = some (a, .inl (cy 0, n1, .inl g))) {n : Int32} {nn : Nat} (hnn : n.toNatClampNeg = nn) (h3 : ¬ n < 0) (hni : n.toInt = nn) (h4 : nn ≤ N) (h5 : nn ≤ n1) (hframes : 1 ≤ R.frames) (hlocals : (rest.map fun v => v.category).sum + (nativeFrameWords "java/lang/System" "arraycopy" 5 + 11) ≤ R.locals) (hdg : decode cc pc = .ok (.invokestatic index, 3))
    (kk : ∀ (H1 : Heap) (locs1 : List Loc), va_P D vwCl (ws.set q1 (a, .inl (cy 0, n1, .inl (va_cpy f g 0 0 nn)))) H1 → va_D A (ws.set q1 (a, .inl (cy 0, n1, .inl (va_cpy f g 0 0 nn)))) → va_S A s.heap H1 locs1 → W p l e R s m args below meth c H1 locs1 cells slots Q (F0 m (pc + 3) ls rest)) : W p l e R s m args below meth c H locs cells slots Q (F0 m pc ls (.int n :: .int 0 :: .ref a :: .int 0 :: .ref t :: rest)) := by
  subst hnn
  have z0 : (0 : Int32).toNatClampNeg = 0 := rfl
  have zi : (0 : Int32).toInt = 0 := rfl
  have z1 : ¬ (0 : Int32) < 0 := by decide
  intro T hTh X
  obtain ⟨cell, hs1, hs2, hs3, hs4, -, hs5, hs8⟩ := hT
  have hlt : t < s.heap.size := (Array.getElem?_eq_some_iff.mp hs1).1
  have hc0 : H[t]? = some cell := (hS.2.1 t hlt hs8).trans hs1
  have hc1 : H[a]? = some (vp_cell (cy 0) (n1, .inl g)) := hP q1 _ he
  obtain ⟨hs6, k0, hk0, cm0, hkk0⟩ := hs2
  obtain ⟨-, k1, hk1, cm1, hkk1⟩ := (C.2.2.2.2.1.2 0 _ rfl).1 n1 (fun j => .int (g j))
  obtain ⟨vm', X', step⟩ := X.arraycopy C.1.1 C.1.2.2.2.1 (i_cw C hl1) (i_cw C wnat_arraycopyName) (i_cw C wst_arraycopyName) (i_cw C wn_java_lang_System) (src := t) (dst := a) (cs := cell) (cd := vp_cell (cy 0) (n1, .inl g)) (srcPos := 0) (destPos := 0) (n := n) (by rw [hTh]; exact hc0) (by rw [hTh]; exact hc1)
    hs6 (fun _ h => by cases h) hs3 (fun h => by cases h) hk0 hk1 hkk0 hkk1 (by simp [refKind]) z1 z1 h3
    (by rw [zi, hni]; omega)
    (by rw [zi, hni]; show ¬ _ > ((arrV (cy 0) n1 (fun j => .int (g j))).slots.size : Int); rw [arrV_size]; omega)
    (fun vm₁ _ i hi => by
      have e1 : cell.slots.getD ((0 : Int32).toNatClampNeg + i) .null = .int (f i) := by
        rw [z0, Nat.zero_add, Array.getD_eq_getD_getElem?, hs5 _ (by omega)]
        rfl
      exact ⟨by rw [e1]; rfl, by rw [e1]; exact trivial⟩)
    (g := F0 m pc ls (.int n :: .int 0 :: .ref a :: .int 0 :: .ref t :: rest)) rfl (hsz.trans C.1.2.2.1.symm) (rest := rest) rfl (by rw [C.1.2.1]; exact hdg) hframes (by show 2 * 0 + _ + _ ≤ _; omega)
  have e1 : copied cell (vp_cell (cy 0) (n1, .inl g)) 0 0 n = vp_cell (cy 0) (n1, .inl (va_cpy f g 0 0 n.toNatClampNeg)) := va_copiedX (fun z => .int z) cell (cy 0) f g hs5 (by rw [z0, Nat.zero_add]; exact h4)
  rw [e1] at X' step
  have hl : a < H.size := (Array.getElem?_eq_some_iff.mp hc1).1
  have hset : (H.setIfInBounds a (vp_cell (cy 0) (n1, .inl (va_cpy f g 0 0 n.toNatClampNeg))))[a]? = some (vp_cell (cy 0) (n1, .inl (va_cpy f g 0 0 n.toNatClampNeg))) := by simp [Array.getElem?_setIfInBounds, hl]
  have oq : ∀ q : Nat, q ≠ a → (H.setIfInBounds a (vp_cell (cy 0) (n1, .inl (va_cpy f g 0 0 n.toNatClampNeg))))[q]? = H[q]? := fun q hq => by simp [Array.getElem?_setIfInBounds, Ne.symm hq]
  have hS2 : va_S A s.heap (H.setIfInBounds a (vp_cell (cy 0) (n1, .inl (va_cpy f g 0 0 n.toNatClampNeg)))) (locs ++ (cell.stretch (0 : Int32).toNatClampNeg n.toNatClampNeg).zipIdx.map fun q => ⟨a, (0 : Int32).toNatClampNeg + q.2⟩) := by
    refine ⟨by simp; exact hS.1, fun q g1 g2 => ?_, fun q hq => ?_⟩
    · rw [oq q (fun h => g2 (by rw [h]; exact hD.2 q1 _ he))]
      exact hS.2.1 q g1 g2
    · rcases List.mem_append.mp hq with h | h
      · exact hS.2.2 q h
      · obtain ⟨z, -, hz⟩ := List.mem_map.mp h
        rw [← hz]
        exact hD.2 q1 _ he
  obtain ⟨t2, b1, b2⟩ := kk _ _ (hP.set hD he hset oq) (hD.set he) hS2 _ (by rw [← hTh]; rfl) X'
  exact ⟨t2, step t2 b1, b2⟩
theorem i_call (C : m_Ci p s m args meth c cc nL own w0 D cy A) {y : MethodName} {rm : Room} {bt : ByteArray} {mL index lq mc ms : Nat} {σ : Type} {Wp : σ → va_W} {e0 : va_E} {wr : va_W} (hM : Met l y (Cond.code y bt mL none :: m_tbl) rm (va_Pc [.ref lq] (m_PI D cy lq H.size e0)) (m_QN D Wp (m_An lq H.size)) mc ms (m_An lq H.size)) (hy : y.name = "<init>") (hl1 : Cond.methodLink own index y ∈ m_tbl) (hl2 : Cond.instanceMethod y ∈ m_tbl) (hl3 : Cond.initialized y.cls ∈ m_tbl) (hl4 : Cond.code y bt mL none ∈ m_tbl) (hrm : rm.cells = mc ∧ rm.slots = ms) (hd : y.cls ≠ "java/lang/invoke/MethodHandle" ∧ y.cls ≠ "java/lang/invoke/VarHandle" ∧ (parseMethodDescriptor y.desc).map (fun d => d.parameters.length) = some 0) (hR : rm.frames + 1 ≤ R.frames ∧ 8 + (mL + 11) + rm.locals ≤ R.locals) (hP : va_P D vwCl (wr ++ [(lq, e0)]) H) (hD : va_D A (wr ++ [(lq, e0)])) (hS : va_S A s.heap H locs) (hsz : ls.size = nL) (hroom : (rest.map fun v => v.category).sum ≤ 8) (hdg : decode cc pc = .ok (.invokespecial index, 3)) (hf : cells + mc ≤ R.cells ∧ slots + ms ≤ R.slots)
    (kk : ∀ (u : σ) (H1 : Heap) (locs1 : List Loc), va_P D vwCl (wr ++ Wp u) H1 → va_D A (wr ++ Wp u) → va_S A s.heap H1 locs1 → W p l e R s m args below meth c H1 locs1 (cells + mc) (slots + ms) Q (F0 m (pc + 3) ls rest)) : W p l e R s m args below meth c H locs cells slots Q (F0 m pc ls (.ref lq :: rest)) := by
  have key : ∀ w ∈ Cond.code y bt mL none :: m_tbl, w ∈ m_tbl := by
    intro w hw
    rcases List.mem_cons.mp hw with rfl | hw
    · exact hl4
    · exact hw
  have hG : GoodIn (w0 :: m_tbl) (Cond.code y bt mL none :: m_tbl) := fun w hw => ⟨List.mem_cons_of_mem _ (key w hw), m_good w (key w hw)⟩
  have atl : (wr ++ [(lq, e0)])[wr.length]? = some (lq, e0) := by simp
  have hAl : A lq := hD.2 _ _ atl
  have hF : ∀ q, m_An lq H.size q → A q := fun q h => by
    rcases h with h | h
    · rw [h]; exact hAl
    · exact C.2.2.2.2.2.2 q (Nat.le_trans hS.1 h)
  have hP1 : va_P D vwCl [(lq, e0)] H := fun k q hq => by
    have hz : k < 1 := (List.getElem?_eq_some_iff.mp hq).1
    rw [show k = 0 by omega] at hq
    cases hq
    exact hP _ _ atl
  refine va_callv (va_runI (As := []) (rest := rest) C.1 hM ⟨callB_of 0 C.1.2.2.2.2 hG rfl hrm.1 hrm.2 (i_cw C hl3) (i_cw C hl1) hd hR, hy, i_cw C hl2⟩ ⟨fun a U g mk q => ?_, fun U hU hW => ⟨rfl, by rw [hU], by rw [hU]; exact hP1, va_K.moved hW.alike C.2.2.2.2.1, m_ZI_pass C.2.2.2.2.2.1 hS hU hW hF⟩⟩ rfl rfl hsz rfl (lv_room hroom) hdg hf) hS (fun q _ h => hF q h) hF (fun u t H1 locs1 ht hvm hw hB hz hk hS1 => ?_)
  · obtain ⟨q0, q1, qP, qK, qZ⟩ := q
    obtain ⟨⟨z1, z2, z3, z4, z5⟩, z6⟩ := qZ
    exact ⟨q0, q1, qP, va_K.moved (u := U) (U := U.calling g mk a) (Vm.Alike.refl U.vm) qK, ⟨va_Nw.same rfl rfl z1, va_Nw.same rfl rfl z2, va_Nw.same rfl rfl z3, va_Nw.same rfl rfl z4, va_AO.moved (u := U) (U := U.calling g mk a) (Vm.Alike.refl U.vm) z5⟩, z6.choose, va_Z.moved (u := U) (U := U.calling g mk a) (Vm.Alike.refl U.vm) z6.choose_spec.1, va_T.moved (u := U) (U := U.calling g mk a) (Vm.Alike.refl U.vm) z6.choose_spec.2⟩
  · obtain ⟨hB1, hB2⟩ := hB
    rw [ht] at hB1
    obtain ⟨g1, g2⟩ := m_joinL hP hD hk hF hB1 hB2
    exact kk u H1 locs1 g1 g2 hS1
theorem i_callN (C : m_Ci p s m args meth c cc nL own w0 D cy A) {y : MethodName} {rm : Room} {bt : ByteArray} {mL index lq mc ms : Nat} {σ : Type} {Wp : σ → va_W} {e0 : va_E} {wr : va_W} {host : String} (hM : Met l y (Cond.code y bt mL none :: m_tbl) rm (va_Pc [.ref lq] (m_PI D cy lq H.size e0)) (m_QN D Wp (m_An lq H.size)) mc ms (m_An lq H.size)) (hy : y.name = "<init>") (hl1 : va_Nw (.methodLinkNest own index y host) s) (hl2 : Cond.instanceMethod y ∈ m_tbl) (hl3 : Cond.initialized y.cls ∈ m_tbl) (hl4 : Cond.code y bt mL none ∈ m_tbl) (hrm : rm.cells = mc ∧ rm.slots = ms) (hd : y.cls ≠ "java/lang/invoke/MethodHandle" ∧ y.cls ≠ "java/lang/invoke/VarHandle" ∧ (parseMethodDescriptor y.desc).map (fun d => d.parameters.length) = some 0) (hR : rm.frames + 1 ≤ R.frames ∧ 8 + (mL + 11) + rm.locals ≤ R.locals) (hP : va_P D vwCl (wr ++ [(lq, e0)]) H) (hD : va_D A (wr ++ [(lq, e0)])) (hS : va_S A s.heap H locs) (hsz : ls.size = nL) (hroom : (rest.map fun v => v.category).sum ≤ 8) (hdg : decode cc pc = .ok (.invokespecial index, 3)) (hf : cells + mc ≤ R.cells ∧ slots + ms ≤ R.slots)
    (kk : ∀ (u : σ) (H1 : Heap) (locs1 : List Loc), va_P D vwCl (wr ++ Wp u) H1 → va_D A (wr ++ Wp u) → va_S A s.heap H1 locs1 → W p l e R s m args below meth c H1 locs1 (cells + mc) (slots + ms) Q (F0 m (pc + 3) ls rest)) : W p l e R s m args below meth c H locs cells slots Q (F0 m pc ls (.ref lq :: rest)) := by
  have key : ∀ w ∈ Cond.code y bt mL none :: m_tbl, w ∈ m_tbl := by
    intro w hw
    rcases List.mem_cons.mp hw with rfl | hw
    · exact hl4
    · exact hw
  have hG : GoodIn (w0 :: m_tbl) (Cond.code y bt mL none :: m_tbl) := fun w hw => ⟨List.mem_cons_of_mem _ (key w hw), m_good w (key w hw)⟩
  have atl : (wr ++ [(lq, e0)])[wr.length]? = some (lq, e0) := by simp
  have hAl : A lq := hD.2 _ _ atl
  have hF : ∀ q, m_An lq H.size q → A q := fun q h => by
    rcases h with h | h
    · rw [h]; exact hAl
    · exact C.2.2.2.2.2.2 q (Nat.le_trans hS.1 h)
  have hP1 : va_P D vwCl [(lq, e0)] H := fun k q hq => by
    have hz : k < 1 := (List.getElem?_eq_some_iff.mp hq).1
    rw [show k = 0 by omega] at hq
    cases hq
    exact hP _ _ atl
  refine va_callv (va_runIN (As := []) (rest := rest) C.1 hM ⟨va_cnB 0 C.1.2.2.2.2 hG rfl hrm.1 hrm.2 hl1 (i_cw C hl3) hd hR, hy, i_cw C hl2⟩ ⟨fun a U g mk q => ?_, fun U hU hW => ⟨rfl, by rw [hU], by rw [hU]; exact hP1, va_K.moved hW.alike C.2.2.2.2.1, m_ZI_pass C.2.2.2.2.2.1 hS hU hW hF⟩⟩ rfl rfl hsz rfl (lv_room hroom) hdg hf) hS (fun q _ h => hF q h) hF (fun u t H1 locs1 ht hvm hw hB hz hk hS1 => ?_)
  · obtain ⟨q0, q1, qP, qK, qZ⟩ := q
    obtain ⟨⟨z1, z2, z3, z4, z5⟩, z6⟩ := qZ
    exact ⟨q0, q1, qP, va_K.moved (u := U) (U := U.calling g mk a) (Vm.Alike.refl U.vm) qK, ⟨va_Nw.same rfl rfl z1, va_Nw.same rfl rfl z2, va_Nw.same rfl rfl z3, va_Nw.same rfl rfl z4, va_AO.moved (u := U) (U := U.calling g mk a) (Vm.Alike.refl U.vm) z5⟩, z6.choose, va_Z.moved (u := U) (U := U.calling g mk a) (Vm.Alike.refl U.vm) z6.choose_spec.1, va_T.moved (u := U) (U := U.calling g mk a) (Vm.Alike.refl U.vm) z6.choose_spec.2⟩
  · obtain ⟨hB1, hB2⟩ := hB
    rw [ht] at hB1
    obtain ⟨g1, g2⟩ := m_joinL hP hD hk hF hB1 hB2
    exact kk u H1 locs1 g1 g2 hS1
theorem i_vret {σ : Type} {Wp : σ → va_W} {mc ms : Nat} (C : m_Ci p s m args meth c cc nL own w0 D cy A) (u : σ) (hP : va_P D vwCl (Wp u) H) (hD : va_D A (Wp u)) (hS : va_S A s.heap H locs) (hc : cells ≤ mc) (hs : slots ≤ ms) (hdg : decode cc pc = .ok (.return_, 1)) : W p l e R s m args below meth c H locs cells slots (MQ below (m_QN D Wp A) args s mc ms A) (F0 m pc ls []) := by
  refine W.widen (k := mc) (n := ms) hc hs ?_
  exact W.vret C.1.1 C.1.2.1 C.2.1 (fun t ht hW => ⟨⟨u, rfl, trivial, by show va_P D vwCl (Wp u) t.heap ∧ _; rw [ht]; exact ⟨hP, hD⟩⟩, hS.F ht⟩) hS.2.2 hdg C.2.2.1
/-- a constructor's contract out of the walk of its body -/
theorem i_met {y : MethodName} {rm : Room} {bt : ByteArray} {mL h0 mc ms sz : Nat} {e0 : va_E} {σ : Type} {Wp : σ → va_W} (hy : plainName y.cls = true) (ho : y.cls = own) (hn : y.name = "<init>") (hsl : 1 ≤ mL)
    (body : ∀ (p : Program) (e : Env) (s : State) (m : MethodId) (args : Array Value) (below : List Frame) (meth : Method) (c : Code), s.heap.size = sz → m_Ci p s m args meth c bt mL own (Cond.code y bt mL none) D cy (m_An h0 sz) → ∀ ls : Array Slot, lv_has ls mL [(0, .ref h0)] → va_P D vwCl [(h0, e0)] s.heap → va_D (m_An h0 sz) [(h0, e0)] → va_S (m_An h0 sz) s.heap s.heap [] → W p l e rm s m args below meth c s.heap [] 0 0 (MQ below (m_QN D Wp (m_An h0 sz)) args s mc ms (m_An h0 sz)) (F0 m 0 ls [])) : Met l y (Cond.code y bt mL none :: m_tbl) rm (va_Pc [.ref h0] (m_PI D cy h0 sz e0)) (m_QN D Wp (m_An h0 sz)) mc ms (m_An h0 sz) := by
  subst ho
  refine Met.ofW (cc := bt) (maxL := mL) (ret := none) hy rfl ?_
  intro p e s m args below meth c s₁ B hml hv
  obtain ⟨rfl, hsz, hP, hK, hZ⟩ := hv
  have hl := lv_entry [.ref h0] (n := mL) hsl
  have hD : va_D (m_An h0 sz) [(h0, e0)] := by
    refine ⟨fun i j p q hp hq _ => ?_, fun k q hq => ?_⟩
    · have h1 : i < 1 := (List.getElem?_eq_some_iff.mp hp).1
      have h2 : j < 1 := (List.getElem?_eq_some_iff.mp hq).1
      omega
    · have hz : k < 1 := (List.getElem?_eq_some_iff.mp hq).1
      rw [show k = 0 by omega] at hq
      cases hq
      exact Or.inl rfl
  have h := body p e s m _ below meth c hsz ⟨⟨B.exec, B.bytes, hml, findClass_of_methodNamed B.named, atoms_spec (ws := Cond.code y bt mL none :: m_tbl) B.pre⟩, B.returns, B.notSynchronized, by rw [(name_of_methodNamed B.named B.method).1]; exact hn, hK, hZ, fun q hq => Or.inr (by rw [← hsz]; exact hq)⟩ _ hl hP hD va_S.rf
  rw [lg_entry_eq]
  exact h
end IKW
