-- the prover's own kit: methods as partial functions on one state of numbers (cell, slot -> number), rows of the machine over that state
abbrev XT : Type := Nat → Nat → Int32
def m_up (X : XT) (i : Nat) (f : Nat → Int32) : XT := fun j => if j = i then f else X j
abbrev m_in (i : Int32) (n : Nat) : Prop := ¬ (i < 0 ∨ n ≤ i.toNatClampNeg)
def m_gd {α : Type} (c : Prop) [Decidable c] (k : Option α) : Option α := if c then k else none
def m_nm {α β : Type} (v : α) (k : α → β) : β := k v
def m_bi {α : Type} (o : Option (Int32 × XT)) (k : Int32 → XT → Option α) : Option α := match o with
  | none => none
  | some q => k q.1 q.2
def m_bv {α : Type} (o : Option XT) (k : XT → Option α) : Option α := match o with
  | none => none
  | some q => k q
theorem m_gd_s {α : Type} {c : Prop} [Decidable c] {k : Option α} {z : α} (h : m_gd c k = some z) : c ∧ k = some z := by
  unfold m_gd at h
  by_cases hc : c
  · rw [if_pos hc] at h; exact ⟨hc, h⟩
  · rw [if_neg hc] at h; cases h
theorem m_bi_s {α : Type} {o : Option (Int32 × XT)} {k : Int32 → XT → Option α} {z : α} (h : m_bi o k = some z) : ∃ (r : Int32) (X : XT), o = some (r, X) ∧ k r X = some z := by
  cases o with
  | none => cases h
  | some q => exact ⟨q.1, q.2, rfl, h⟩
theorem m_bv_s {α : Type} {o : Option XT} {k : XT → Option α} {z : α} (h : m_bv o k = some z) : ∃ X : XT, o = some X ∧ k X = some z := by
  cases o with
  | none => cases h
  | some q => exact ⟨q, rfl, h⟩
def m_bk {α : Type} (o : Option (Nat × XT)) (k : Nat → XT → Option α) : Option α := match o with
  | none => none
  | some q => k q.1 q.2
theorem m_bk_s {α : Type} {o : Option (Nat × XT)} {k : Nat → XT → Option α} {z : α} (h : m_bk o k = some z) : ∃ (r : Nat) (X : XT), o = some (r, X) ∧ k r X = some z := by
  cases o with
  | none => cases h
  | some q => exact ⟨q.1, q.2, rfl, h⟩
theorem m_nm_s {α β : Type} {v y : α} {k : α → β} {z : β} (e : y = v) (h : m_nm v k = z) : k y = z := by subst e; exact h
theorem m_it {α : Type} {c : Prop} [Decidable c] {A B z : α} (hc : c) (h : (if c then A else B) = z) : A = z := by rw [if_pos hc] at h; exact h
theorem m_ie {α : Type} {c : Prop} [Decidable c] {A B z : α} (hc : ¬ c) (h : (if c then A else B) = z) : B = z := by rw [if_neg hc] at h; exact h
def m_tbl : List Cond := lw_tbl.filter goodWord
theorem m_tbl_lw {w : Cond} (h : w ∈ m_tbl) : w ∈ lw_tbl := (List.mem_filter.mp h).1
theorem m_good : ∀ w ∈ m_tbl, (w.onTables && w.keeps) = true ∨ ∃ ty, w = .arrayClass ty := fun w h => good_of_word (List.mem_filter.mp h).2
theorem m_goodV {w0 : Cond} {own C : String} {idx mL : Nat} {y : MethodName} {bt : ByteArray} {rt : Option FieldType} (h1 : Cond.methodLink own idx y ∈ m_tbl) (h2 : Cond.instanceMethod y ∈ m_tbl) (h3 : Cond.selects C y y ∈ m_tbl) (h4 : Cond.initialized C ∈ m_tbl) (h5 : Cond.code y bt mL rt ∈ m_tbl) : GoodIn (w0 :: m_tbl) (wsV own idx C y (Cond.code y bt mL rt :: m_tbl)) := by
  have key : ∀ w ∈ wsV own idx C y (Cond.code y bt mL rt :: m_tbl), w ∈ m_tbl := by
    intro w hw
    simp only [wsV, List.cons_append, List.nil_append, List.mem_cons] at hw
    rcases hw with rfl | rfl | rfl | rfl | rfl | hw <;> assumption
  exact fun w hw => ⟨List.mem_cons_of_mem _ (key w hw), m_good w (key w hw)⟩
theorem m_goodS {w0 : Cond} {own : String} {idx mL : Nat} {y : MethodName} {bt : ByteArray} {rt : Option FieldType} (h1 : Cond.methodLink own idx y ∈ m_tbl) (h2 : Cond.static y ∈ m_tbl) (h4 : Cond.initialized y.cls ∈ m_tbl) (h5 : Cond.code y bt mL rt ∈ m_tbl) : GoodIn (w0 :: m_tbl) (va_wsS own idx y (Cond.code y bt mL rt :: m_tbl)) := by
  have key : ∀ w ∈ va_wsS own idx y (Cond.code y bt mL rt :: m_tbl), w ∈ m_tbl := by
    intro w hw
    simp only [va_wsS, List.cons_append, List.nil_append, List.mem_cons] at hw
    rcases hw with rfl | rfl | rfl | rfl | hw <;> assumption
  exact fun w hw => ⟨List.mem_cons_of_mem _ (key w hw), m_good w (key w hw)⟩
/-- what stands over a whole method -/
def m_Cx (p : Program) (s : State) (m : MethodId) (args : Array Value) (meth : Method) (c : Code) (cc : ByteArray) (nL : Nat) (own : String) (ret : Option FieldType) (w0 : Cond) (D : va_G) (tys : List (ClassId × FieldType)) (A : Nat → Prop) (Wf : XT → va_W) (ZZ : State → Prop) : Prop :=
  CallFix p m c cc nL s args (w0 :: m_tbl) own ∧ meth.sig.returnType = ret ∧ meth.locks = false ∧ va_K D vwCl tys s ∧ (∀ X, va_D A (Wf X)) ∧ ZZ s ∧ (∀ u U : State, u.vm.Alike U.vm → (∀ q : Nat, q < u.heap.size → ¬ A q → U.heap[q]? = u.heap[q]?) → ZZ u → ZZ U)
def m_PX (D : va_G) (tys : List (ClassId × FieldType)) (Wf : XT → va_W) (ZZ : State → Prop) (X : XT) (U : State) : Prop := va_P D vwCl (Wf X) U.heap ∧ va_K D vwCl tys U ∧ ZZ U
abbrev m_QI (D : va_G) (Wf : XT → va_W) (A : Nat → Prop) (r0 : Int32) (X0 : XT) : Array Value → State → Outcome → State → Prop := va_Qi (S := XT) (fun r X => r = r0 ∧ X = X0) (fun X t => va_P D vwCl (Wf X) t.heap) A
abbrev m_QV (D : va_G) (Wf : XT → va_W) (A : Nat → Prop) (X0 : XT) : Array Value → State → Outcome → State → Prop := va_Qv (S := XT) (fun X => X = X0) (fun X t => va_P D vwCl (Wf X) t.heap) A
abbrev m_QR (D : va_G) (Wf : XT → va_W) (A : Nat → Prop) (ad : Nat) (X0 : XT) : Array Value → State → Outcome → State → Prop := va_Qr (S := XT) (fun X => X = X0) (fun X b t => b = ad ∧ va_P D vwCl (Wf X) t.heap) A
section MKW
variable {p : Program} {l : Launch} {e : Env} {R : Room} {s : State} {m : MethodId} {args : Array Value} {below : List Frame} {meth : Method} {c : Code} {H : Heap} {locs : List Loc} {Q : State → Prop}
variable {cc : ByteArray} {pc : Nat} {ls : Array Slot} {rest : List Value} {D : va_G} {tys : List (ClassId × FieldType)} {A : Nat → Prop} {Wf : XT → va_W} {ZZ : State → Prop} {nL : Nat} {own : String} {ret : Option FieldType} {w0 : Cond} {X : XT}
theorem m_cw (C : m_Cx p s m args meth c cc nL own ret w0 D tys A Wf ZZ) {w : Cond} (h : w ∈ m_tbl) : w.before args s = true := C.1.2.2.2.2 w (List.mem_cons_of_mem _ h)
theorem m_ci {wl : List Cond} (h : ∀ w ∈ wl, w ∈ m_tbl) : ∀ w ∈ wl, w ∈ w0 :: m_tbl := fun w hw => List.mem_cons_of_mem _ (h w hw)
theorem m_get (C : m_Cx p s m args meth c cc nL own ret w0 D tys A Wf ZZ) (hP : va_P D vwCl (Wf X) H) {i aa ci : Nat} {fs : List Value} (he : (Wf X)[i]? = some (aa, .inr (ci, fs))) {Cn : String} {T : u_T} {N index : Nat} (hc : vwCl[ci]? = some (Cn, T, N)) (hin : ∀ w ∈ u_ws Cn T N, w ∈ m_tbl) (k : Nat) (hk : k < N) (hlink : Cond.fieldLink own index (T k).1 (T k).2.1 (T k).2.2.1 ∈ m_tbl) {v : Value} (hv : fs[k]? = some v) (hdg : decode cc pc = .ok (.getfield index, 3))
    (kk : W p l e R s m args below meth c H locs 0 0 Q (F0 m (pc + 3) ls (v :: rest))) : W p l e R s m args below meth c H locs 0 0 Q (F0 m pc ls (.ref aa :: rest)) :=
  va_get C.1.1 C.1.2.1 C.1.2.2.2.2 (m_ci hin) C.1.2.2.2.1 C.2.2.2.1 hP i he hc k hk (m_cw C hlink) (fun _ h => h) hv hdg kk
theorem m_put (C : m_Cx p s m args meth c cc nL own ret w0 D tys A Wf ZZ) (hP : va_P D vwCl (Wf X) H) (hS : va_S A s.heap H locs) {i aa ci : Nat} {fs : List Value} (he : (Wf X)[i]? = some (aa, .inr (ci, fs))) {Cn : String} {T : u_T} {N index : Nat} (hc : vwCl[ci]? = some (Cn, T, N)) (hin : ∀ w ∈ u_ws Cn T N, w ∈ m_tbl) {ty0 : Nat → FieldType} (hty : ∀ k, k < N → parseFieldDescriptor (T k).2.2.1 = some (ty0 k)) (hnm : ∀ a, a < N → ∀ b, b < N → a ≠ b → (T a).2.1 ≠ (T b).2.1) (k : Nat) (hk : k < N) (hlink : Cond.fieldLink own index (T k).1 (T k).2.1 (T k).2.2.1 ∈ m_tbl) (hfin : (T k).2.2.2 = false) {v : Value} (hn : narrow (ty0 k) v = v) (hfit : fits (ty0 k) v = true) (hl : k < fs.length) {Y : XT} (hset : (Wf X).set i (aa, .inr (ci, fs.set k v)) = Wf Y) (hdg : decode cc pc = .ok (.putfield index, 3))
    (kk : ∀ (Y1 : XT), Y1 = Y → ∀ (H1 : Heap) (locs1 : List Loc), va_P D vwCl (Wf Y1) H1 → va_S A s.heap H1 locs1 → W p l e R s m args below meth c H1 locs1 0 0 Q (F0 m (pc + 3) ls rest)) : W p l e R s m args below meth c H locs 0 0 Q (F0 m pc ls (v :: .ref aa :: rest)) := by
  refine va_put C.1.1 C.1.2.1 C.1.2.2.2.2 (m_ci hin) ty0 hty hnm C.1.2.2.2.1 C.2.2.2.1 hP (C.2.2.2.2.1 X) hS i he hc k hk (m_cw C hlink) (fun _ h => h) hfin (hty k hk) hn hfit hl hdg (fun H1 locs1 h1 _ h3 => ?_)
  rw [hset] at h1
  exact kk Y rfl H1 locs1 h1 h3
theorem m_ild (C : m_Cx p s m args meth c cc nL own ret w0 D tys A Wf ZZ) (hP : va_P D vwCl (Wf X) H) {i aa n : Nat} {cA : ClassId} {f : Nat → Int32} (he : (Wf X)[i]? = some (aa, .inl (cA, n, .inl f))) (t0 : Nat) (ht : tys[t0]? = some (cA, .int)) {j : Int32} (hin : m_in j n) (hdg : decode cc pc = .ok (.iaload, 1))
    (kk : ∀ y : Int32, y = f j.toNatClampNeg → W p l e R s m args below meth c H locs 0 0 Q (F0 m (pc + 1) ls (.int y :: rest))) : W p l e R s m args below meth c H locs 0 0 Q (F0 m pc ls (.int j :: .ref aa :: rest)) :=
  va_iald C.1.1 C.1.2.1 C.2.2.2.1 hP i t0 he ht hin hdg (kk _ rfl)
theorem m_zld (C : m_Cx p s m args meth c cc nL own ret w0 D tys A Wf ZZ) (hP : va_P D vwCl (Wf X) H) {i aa n : Nat} {cA : ClassId} {f : Nat → Int32} (he : (Wf X)[i]? = some (aa, .inl (cA, n, .inl f))) (t0 : Nat) (ht : tys[t0]? = some (cA, .boolean)) {j : Int32} (hin : m_in j n) (hdg : decode cc pc = .ok (.baload, 1))
    (kk : ∀ y : Int32, y = f j.toNatClampNeg → W p l e R s m args below meth c H locs 0 0 Q (F0 m (pc + 1) ls (.int y :: rest))) : W p l e R s m args below meth c H locs 0 0 Q (F0 m pc ls (.int j :: .ref aa :: rest)) :=
  va_zald C.1.1 C.1.2.1 C.2.2.2.1 hP i t0 he ht hin hdg (kk _ rfl)
theorem m_cld (C : m_Cx p s m args meth c cc nL own ret w0 D tys A Wf ZZ) (hP : va_P D vwCl (Wf X) H) {i aa n : Nat} {cA : ClassId} {f : Nat → Int32} (he : (Wf X)[i]? = some (aa, .inl (cA, n, .inl f))) (t0 : Nat) (ht : tys[t0]? = some (cA, .char)) {j : Int32} (hin : m_in j n) (hdg : decode cc pc = .ok (.caload, 1))
    (kk : ∀ y : Int32, y = f j.toNatClampNeg → W p l e R s m args below meth c H locs 0 0 Q (F0 m (pc + 1) ls (.int y :: rest))) : W p l e R s m args below meth c H locs 0 0 Q (F0 m pc ls (.int j :: .ref aa :: rest)) :=
  va_cald C.1.1 C.1.2.1 C.2.2.2.1 hP i t0 he ht hin hdg (kk _ rfl)
theorem m_ald (C : m_Cx p s m args meth c cc nL own ret w0 D tys A Wf ZZ) (hP : va_P D vwCl (Wf X) H) {i aa n : Nat} {cA : ClassId} {Cn : String} {f : Nat → Option Nat} (he : (Wf X)[i]? = some (aa, .inl (cA, n, .inr (.inr (.inr (.inr f)))))) (t0 : Nat) (ht : tys[t0]? = some (cA, .object Cn)) {j : Int32} (hin : m_in j n) (hdg : decode cc pc = .ok (.aaload, 1)) {b : Nat} (hf : f j.toNatClampNeg = some b)
    (kk : W p l e R s m args below meth c H locs 0 0 Q (F0 m (pc + 1) ls (.ref b :: rest))) : W p l e R s m args below meth c H locs 0 0 Q (F0 m pc ls (.int j :: .ref aa :: rest)) := by
  refine va_aldq C.1.1 C.1.2.1 C.2.2.2.1 hP i t0 he ht hin hdg ?_
  rw [hf]
  exact kk
theorem m_ist (C : m_Cx p s m args meth c cc nL own ret w0 D tys A Wf ZZ) (hP : va_P D vwCl (Wf X) H) (hS : va_S A s.heap H locs) {i aa n : Nat} {cA : ClassId} {f : Nat → Int32} (he : (Wf X)[i]? = some (aa, .inl (cA, n, .inl f))) (t0 : Nat) (ht : tys[t0]? = some (cA, .int)) {j x : Int32} (hin : m_in j n) (hset : ∀ g : Nat → Int32, (Wf X).set i (aa, .inl (cA, n, .inl g)) = Wf (m_up X i g)) (hdg : decode cc pc = .ok (.iastore, 1))
    (kk : ∀ (Y1 : XT), Y1 = m_up X i (upd f j.toNatClampNeg x) → ∀ (H1 : Heap) (locs1 : List Loc), va_P D vwCl (Wf Y1) H1 → va_S A s.heap H1 locs1 → W p l e R s m args below meth c H1 locs1 0 0 Q (F0 m (pc + 1) ls rest)) : W p l e R s m args below meth c H locs 0 0 Q (F0 m pc ls (.int x :: .int j :: .ref aa :: rest)) := by
  refine va_iast C.1.1 C.1.2.1 C.2.2.2.1 hP (C.2.2.2.2.1 X) hS i t0 he ht hin hdg (fun H1 locs1 h1 _ h3 => ?_)
  rw [hset] at h1
  exact kk _ rfl H1 locs1 h1 h3
theorem m_zst (C : m_Cx p s m args meth c cc nL own ret w0 D tys A Wf ZZ) (hP : va_P D vwCl (Wf X) H) (hS : va_S A s.heap H locs) {i aa n : Nat} {cA : ClassId} {f : Nat → Int32} (he : (Wf X)[i]? = some (aa, .inl (cA, n, .inl f))) (t0 : Nat) (ht : tys[t0]? = some (cA, .boolean)) {j x : Int32} (hin : m_in j n) (hset : ∀ g : Nat → Int32, (Wf X).set i (aa, .inl (cA, n, .inl g)) = Wf (m_up X i g)) (hdg : decode cc pc = .ok (.bastore, 1))
    (kk : ∀ (Y1 : XT), Y1 = m_up X i (upd f j.toNatClampNeg (vp_nar .boolean x)) → ∀ (H1 : Heap) (locs1 : List Loc), va_P D vwCl (Wf Y1) H1 → va_S A s.heap H1 locs1 → W p l e R s m args below meth c H1 locs1 0 0 Q (F0 m (pc + 1) ls rest)) : W p l e R s m args below meth c H locs 0 0 Q (F0 m pc ls (.int x :: .int j :: .ref aa :: rest)) := by
  refine va_zast C.1.1 C.1.2.1 C.2.2.2.1 hP (C.2.2.2.2.1 X) hS i t0 he ht hin hdg (fun H1 locs1 h1 _ h3 => ?_)
  rw [hset] at h1
  exact kk _ rfl H1 locs1 h1 h3
theorem m_cst (C : m_Cx p s m args meth c cc nL own ret w0 D tys A Wf ZZ) (hP : va_P D vwCl (Wf X) H) (hS : va_S A s.heap H locs) {i aa n : Nat} {cA : ClassId} {f : Nat → Int32} (he : (Wf X)[i]? = some (aa, .inl (cA, n, .inl f))) (t0 : Nat) (ht : tys[t0]? = some (cA, .char)) {j x : Int32} (hin : m_in j n) (hset : ∀ g : Nat → Int32, (Wf X).set i (aa, .inl (cA, n, .inl g)) = Wf (m_up X i g)) (hdg : decode cc pc = .ok (.castore, 1))
    (kk : ∀ (Y1 : XT), Y1 = m_up X i (upd f j.toNatClampNeg (vp_nar .char x)) → ∀ (H1 : Heap) (locs1 : List Loc), va_P D vwCl (Wf Y1) H1 → va_S A s.heap H1 locs1 → W p l e R s m args below meth c H1 locs1 0 0 Q (F0 m (pc + 1) ls rest)) : W p l e R s m args below meth c H locs 0 0 Q (F0 m pc ls (.int x :: .int j :: .ref aa :: rest)) := by
  refine va_cast C.1.1 C.1.2.1 C.2.2.2.1 hP (C.2.2.2.2.1 X) hS i t0 he ht hin hdg (fun H1 locs1 h1 _ h3 => ?_)
  rw [hset] at h1
  exact kk _ rfl H1 locs1 h1 h3
theorem m_copy (C : m_Cx p s m args meth c cc nL own ret w0 D tys A Wf ZZ) (hP : va_P D vwCl (Wf X) H) (hS : va_S A s.heap H locs) (hsz : ls.size = nL) {i0 i1 a0 a1 n0 n1 : Nat} {c0 c1 : ClassId} {f g : Nat → Int32} (he0 : (Wf X)[i0]? = some (a0, .inl (c0, n0, .inl f))) (he1 : (Wf X)[i1]? = some (a1, .inl (c1, n1, .inl g))) (t0 t1 : Nat) {ty : FieldType} (ht0 : tys[t0]? = some (c0, ty)) (ht1 : tys[t1]? = some (c1, ty)) (hprim : refKind ty = false) {index : Nat} (hl1 : Cond.methodLink own index arraycopyName ∈ m_tbl) (hl2 : Cond.native arraycopyName ∈ m_tbl) (hl3 : Cond.static arraycopyName ∈ m_tbl) (hl4 : Cond.initialized "java/lang/System" ∈ m_tbl) {n : Int32} {nn : Nat} (hnn : n.toNatClampNeg = nn) (h3 : ¬ n < 0) (h4 : nn ≤ n0) (h5 : nn ≤ n1) (hfit : ∀ i, i < nn → fits ty (.int (f i)) = true) (hframes : 1 ≤ R.frames) (hlocals : (rest.map fun v => v.category).sum + (nativeFrameWords "java/lang/System" "arraycopy" 5 + 11) ≤ R.locals) (hset : ∀ g : Nat → Int32, (Wf X).set i1 (a1, .inl (c1, n1, .inl g)) = Wf (m_up X i1 g)) (hdg : decode cc pc = .ok (.invokestatic index, 3))
    (kk : ∀ (Y1 : XT), Y1 = m_up X i1 (va_cpy f g 0 0 nn) → ∀ (H1 : Heap) (locs1 : List Loc), va_P D vwCl (Wf Y1) H1 → va_S A s.heap H1 locs1 → W p l e R s m args below meth c H1 locs1 0 0 Q (F0 m (pc + 3) ls rest)) : W p l e R s m args below meth c H locs 0 0 Q (F0 m pc ls (.int n :: .int 0 :: .ref a1 :: .int 0 :: .ref a0 :: rest)) := by
  subst hnn
  have z0 : (0 : Int32).toNatClampNeg = 0 := rfl
  have z1 : ¬ (0 : Int32) < 0 := by decide
  refine va_copyi C.1.1 C.1.2.1 (C.1.2.2.1.trans hsz.symm) C.1.2.2.2.1 (m_cw C hl1) (m_cw C hl2) (m_cw C hl3) (m_cw C hl4) C.2.2.2.1 hP (C.2.2.2.2.1 X) hS i0 i1 t0 t1 he0 he1 ht0 ht1 hprim z1 z1 h3 (by rw [z0, Nat.zero_add]; exact h4) (by rw [z0, Nat.zero_add]; exact h5) (fun i hi => by rw [z0, Nat.zero_add]; exact hfit i hi) hframes hlocals hdg (fun H1 locs1 h1 _ h3 => ?_)
  rw [z0, hset] at h1
  exact kk _ rfl H1 locs1 h1 h3
theorem m_gets (C : m_Cx p s m args meth c cc nL own ret w0 D tys A Wf ZZ) (hS : va_S A s.heap H locs) {Cn n d : String} {v : Value} {index : Nat} (hZ : va_Z Cn n d v A s s.heap) (hlink : Cond.fieldLink own index Cn n d ∈ m_tbl) (hdg : decode cc pc = .ok (.getstatic index, 3))
    (kk : W p l e R s m args below meth c H locs 0 0 Q (F0 m (pc + 3) ls (v :: rest))) : W p l e R s m args below meth c H locs 0 0 Q (F0 m pc ls rest) :=
  va_gets C.1.1 C.1.2.1 hZ hS C.1.2.2.2.1 (m_cw C hlink) (fun _ h => h) hdg kk
theorem m_tld (C : m_Cx p s m args meth c cc nL own ret w0 D tys A Wf ZZ) (hS : va_S A s.heap H locs) {t N : Nat} {f : Nat → Int32} (hT : va_T .int t N (fun j => .int (f j)) A s s.heap) {j : Int32} (hin : m_in j N) (hdg : decode cc pc = .ok (.iaload, 1))
    (kk : ∀ y : Int32, y = f j.toNatClampNeg → W p l e R s m args below meth c H locs 0 0 Q (F0 m (pc + 1) ls (.int y :: rest))) : W p l e R s m args below meth c H locs 0 0 Q (F0 m pc ls (.int j :: .ref t :: rest)) :=
  va_ti C.1.1 C.1.2.1 hT hS hin rfl hdg (kk _ rfl)
theorem m_max (C : m_Cx p s m args meth c cc nL own ret w0 D tys A Wf ZZ) (hsz : ls.size = nL) {index : Nat} (hl1 : Cond.methodLink own index Lib.Math.max.name ∈ m_tbl) (hl2 : Cond.static Lib.Math.max.name ∈ m_tbl) (hl3 : Cond.initialized "java/lang/Math" ∈ m_tbl) (hl4 : Cond.code Lib.Math.max.name Lib.Math.max.code 2 (some .int) ∈ m_tbl) (hframes : 1 ≤ R.frames) (hlocals : (rest.map fun v => v.category).sum + 13 ≤ R.locals) {x y : Int32} (hdg : decode cc pc = .ok (.invokestatic index, 3))
    (kk : ∀ z : Int32, z = (if x < y then y else x) → W p l e R s m args below meth c H locs 0 0 Q (F0 m (pc + 3) ls (.int z :: rest))) : W p l e R s m args below meth c H locs 0 0 Q (F0 m pc ls (.int y :: .int x :: rest)) :=
  va_mmax C.1.1 C.1.2.1 (C.1.2.2.1.trans hsz.symm) C.1.2.2.2.1 (m_cw C hl1) (m_cw C hl2) (m_cw C hl3) (m_cw C hl4) hframes hlocals (Nat.zero_le _) (Nat.zero_le _) hdg (kk _ rfl)
theorem m_min (C : m_Cx p s m args meth c cc nL own ret w0 D tys A Wf ZZ) (hsz : ls.size = nL) {index : Nat} (hl1 : Cond.methodLink own index Lib.Math.min.name ∈ m_tbl) (hl2 : Cond.static Lib.Math.min.name ∈ m_tbl) (hl3 : Cond.initialized "java/lang/Math" ∈ m_tbl) (hl4 : Cond.code Lib.Math.min.name Lib.Math.min.code 2 (some .int) ∈ m_tbl) (hframes : 1 ≤ R.frames) (hlocals : (rest.map fun v => v.category).sum + 13 ≤ R.locals) {x y : Int32} (hdg : decode cc pc = .ok (.invokestatic index, 3))
    (kk : ∀ z : Int32, z = (if y < x then y else x) → W p l e R s m args below meth c H locs 0 0 Q (F0 m (pc + 3) ls (.int z :: rest))) : W p l e R s m args below meth c H locs 0 0 Q (F0 m pc ls (.int y :: .int x :: rest)) :=
  va_mmin C.1.1 C.1.2.1 (C.1.2.2.1.trans hsz.symm) C.1.2.2.2.1 (m_cw C hl1) (m_cw C hl2) (m_cw C hl3) (m_cw C hl4) hframes hlocals (Nat.zero_le _) (Nat.zero_le _) hdg (kk _ rfl)
theorem m_PX_pass (C : m_Cx p s m args meth c cc nL own ret w0 D tys A Wf ZZ) (hP : va_P D vwCl (Wf X) H) (hS : va_S A s.heap H locs) {U : State} (hU : U.heap = H) (hW : s.WarmedH U.vm) : m_PX D tys Wf ZZ X U :=
  ⟨by rw [hU]; exact hP, va_K.moved hW.alike C.2.2.2.1, C.2.2.2.2.2.2 s U hW.alike (fun q h1 h2 => by rw [hU]; exact hS.2.1 q h1 h2) C.2.2.2.2.2.1⟩
theorem m_blind (C : m_Cx p s m args meth c cc nL own ret w0 D tys A Wf ZZ) {av : List Value} : FrameBlind (va_Pc av (m_PX D tys Wf ZZ X)) := fun a U g mk q => by
  obtain ⟨q0, qP, qK, qZ⟩ := q
  exact ⟨q0, qP, va_K.moved (u := U) (U := U.calling g mk a) (Vm.Alike.refl U.vm) qK, C.2.2.2.2.2.2 U (U.calling g mk a) (Vm.Alike.refl U.vm) (fun _ _ _ => rfl) qZ⟩
section MKC
variable {y : MethodName} {rm : Room} {bt : ByteArray} {mL index : Nat} {rt : Option FieldType} {b i ci n : Nat} {fs : List Value} {q : vw_C} {st : List Value} {r : Int32} {X1 : XT}
theorem m_callVi (C : m_Cx p s m args meth c cc nL own ret w0 D tys A Wf ZZ) (As : List Value) (rest : List Value) (hM : Met l y (Cond.code y bt mL rt :: m_tbl) rm (va_Pc (.ref b :: As) (m_PX D tys Wf ZZ X)) (m_QI D Wf A r X1) 0 0 A) (hG : GoodIn (w0 :: m_tbl) (wsV own index q.1 y (Cond.code y bt mL rt :: m_tbl))) (hrm : rm.cells = 0 ∧ rm.slots = 0) (hd : y.cls = q.1 ∧ y.cls ≠ "java/lang/invoke/MethodHandle" ∧ y.cls ≠ "java/lang/invoke/VarHandle" ∧ (parseMethodDescriptor y.desc).map (fun d => d.parameters.length) = some n) (hR : rm.frames + 1 ≤ R.frames ∧ 8 + (mL + 11) + rm.locals ≤ R.locals) (hc : vwCl[ci]? = some q) (he : (Wf X)[i]? = some (b, .inr (ci, fs))) (hP : va_P D vwCl (Wf X) H) (hS : va_S A s.heap H locs) (hn : As.length = n) (hsz : ls.size = nL) (hst : st = As.reverse ++ .ref b :: rest) (hroom : (rest.map fun v => v.category).sum ≤ 8) (hdg : decode cc pc = .ok (.invokevirtual index, 3))
    (kk : ∀ (H1 : Heap) (locs1 : List Loc), va_P D vwCl (Wf X1) H1 → va_S A s.heap H1 locs1 → W p l e R s m args below meth c H1 locs1 0 0 Q (F0 m (pc + 3) ls (.int r :: rest))) : W p l e R s m args below meth c H locs 0 0 Q (F0 m pc ls st) := by
  refine va_calli (va_runV (As := As) (rest := rest) C.1 hM (cwV n C.1.2.2.2.2 hG rfl hrm.1 hrm.2 hd hR) ⟨m_blind C, va_recv C.2.2.2.1 hP hc he, fun U hU hW => ⟨rfl, m_PX_pass C hP hS hU hW⟩⟩ rfl hn hsz hst (lv_room hroom) hdg ⟨Nat.zero_le _, Nat.zero_le _⟩) hS (fun q _ h => h) (fun q h => h) (fun r' u t H1 locs1 ht hvm hw' hB hz hk hS1 => ?_)
  obtain ⟨rfl, rfl⟩ := hw'
  rw [ht] at hB
  exact kk H1 locs1 hB hS1
theorem m_callVv (C : m_Cx p s m args meth c cc nL own ret w0 D tys A Wf ZZ) (As : List Value) (rest : List Value) (hM : Met l y (Cond.code y bt mL rt :: m_tbl) rm (va_Pc (.ref b :: As) (m_PX D tys Wf ZZ X)) (m_QV D Wf A X1) 0 0 A) (hG : GoodIn (w0 :: m_tbl) (wsV own index q.1 y (Cond.code y bt mL rt :: m_tbl))) (hrm : rm.cells = 0 ∧ rm.slots = 0) (hd : y.cls = q.1 ∧ y.cls ≠ "java/lang/invoke/MethodHandle" ∧ y.cls ≠ "java/lang/invoke/VarHandle" ∧ (parseMethodDescriptor y.desc).map (fun d => d.parameters.length) = some n) (hR : rm.frames + 1 ≤ R.frames ∧ 8 + (mL + 11) + rm.locals ≤ R.locals) (hc : vwCl[ci]? = some q) (he : (Wf X)[i]? = some (b, .inr (ci, fs))) (hP : va_P D vwCl (Wf X) H) (hS : va_S A s.heap H locs) (hn : As.length = n) (hsz : ls.size = nL) (hst : st = As.reverse ++ .ref b :: rest) (hroom : (rest.map fun v => v.category).sum ≤ 8) (hdg : decode cc pc = .ok (.invokevirtual index, 3))
    (kk : ∀ (H1 : Heap) (locs1 : List Loc), va_P D vwCl (Wf X1) H1 → va_S A s.heap H1 locs1 → W p l e R s m args below meth c H1 locs1 0 0 Q (F0 m (pc + 3) ls rest)) : W p l e R s m args below meth c H locs 0 0 Q (F0 m pc ls st) := by
  refine va_callv (va_runV (As := As) (rest := rest) C.1 hM (cwV n C.1.2.2.2.2 hG rfl hrm.1 hrm.2 hd hR) ⟨m_blind C, va_recv C.2.2.2.1 hP hc he, fun U hU hW => ⟨rfl, m_PX_pass C hP hS hU hW⟩⟩ rfl hn hsz hst (lv_room hroom) hdg ⟨Nat.zero_le _, Nat.zero_le _⟩) hS (fun q _ h => h) (fun q h => h) (fun u t H1 locs1 ht hvm hw' hB hz hk hS1 => ?_)
  subst hw'
  rw [ht] at hB
  exact kk H1 locs1 hB hS1
theorem m_callVr (C : m_Cx p s m args meth c cc nL own ret w0 D tys A Wf ZZ) {ad : Nat} (As : List Value) (rest : List Value) (hM : Met l y (Cond.code y bt mL rt :: m_tbl) rm (va_Pc (.ref b :: As) (m_PX D tys Wf ZZ X)) (m_QR D Wf A ad X1) 0 0 A) (hG : GoodIn (w0 :: m_tbl) (wsV own index q.1 y (Cond.code y bt mL rt :: m_tbl))) (hrm : rm.cells = 0 ∧ rm.slots = 0) (hd : y.cls = q.1 ∧ y.cls ≠ "java/lang/invoke/MethodHandle" ∧ y.cls ≠ "java/lang/invoke/VarHandle" ∧ (parseMethodDescriptor y.desc).map (fun d => d.parameters.length) = some n) (hR : rm.frames + 1 ≤ R.frames ∧ 8 + (mL + 11) + rm.locals ≤ R.locals) (hc : vwCl[ci]? = some q) (he : (Wf X)[i]? = some (b, .inr (ci, fs))) (hP : va_P D vwCl (Wf X) H) (hS : va_S A s.heap H locs) (hn : As.length = n) (hsz : ls.size = nL) (hst : st = As.reverse ++ .ref b :: rest) (hroom : (rest.map fun v => v.category).sum ≤ 8) (hdg : decode cc pc = .ok (.invokevirtual index, 3))
    (kk : ∀ (H1 : Heap) (locs1 : List Loc), va_P D vwCl (Wf X1) H1 → va_S A s.heap H1 locs1 → W p l e R s m args below meth c H1 locs1 0 0 Q (F0 m (pc + 3) ls (.ref ad :: rest))) : W p l e R s m args below meth c H locs 0 0 Q (F0 m pc ls st) := by
  refine va_callr (va_runV (As := As) (rest := rest) C.1 hM (cwV n C.1.2.2.2.2 hG rfl hrm.1 hrm.2 hd hR) ⟨m_blind C, va_recv C.2.2.2.1 hP hc he, fun U hU hW => ⟨rfl, m_PX_pass C hP hS hU hW⟩⟩ rfl hn hsz hst (lv_room hroom) hdg ⟨Nat.zero_le _, Nat.zero_le _⟩) hS (fun q _ h => h) (fun q h => h) (fun u ra t H1 locs1 ht hvm hw' hB hz hk hS1 => ?_)
  subst hw'
  obtain ⟨rfl, hB⟩ := hB
  rw [ht] at hB
  exact kk H1 locs1 hB hS1
theorem m_callSi (C : m_Cx p s m args meth c cc nL own ret w0 D tys A Wf ZZ) (As : List Value) (rest : List Value) (hM : Met l y (Cond.code y bt mL rt :: m_tbl) rm (va_Pc As (m_PX D tys Wf ZZ X)) (m_QI D Wf A r X1) 0 0 A) (hG : GoodIn (w0 :: m_tbl) (va_wsS own index y (Cond.code y bt mL rt :: m_tbl))) (hrm : rm.cells = 0 ∧ rm.slots = 0) (hd : y.cls ≠ "java/lang/invoke/MethodHandle" ∧ y.cls ≠ "java/lang/invoke/VarHandle" ∧ (parseMethodDescriptor y.desc).map (fun d => d.parameters.length) = some n) (hR : rm.frames + 1 ≤ R.frames ∧ 8 + (mL + 11) + rm.locals ≤ R.locals) (hP : va_P D vwCl (Wf X) H) (hS : va_S A s.heap H locs) (hn : As.length = n) (hsz : ls.size = nL) (hst : st = As.reverse ++ rest) (hroom : (rest.map fun v => v.category).sum ≤ 8) (hdg : decode cc pc = .ok (.invokestatic index, 3))
    (kk : ∀ (H1 : Heap) (locs1 : List Loc), va_P D vwCl (Wf X1) H1 → va_S A s.heap H1 locs1 → W p l e R s m args below meth c H1 locs1 0 0 Q (F0 m (pc + 3) ls (.int r :: rest))) : W p l e R s m args below meth c H locs 0 0 Q (F0 m pc ls st) := by
  refine va_calli (va_runS (As := As) (rest := rest) C.1 hM (va_cwS n C.1.2.2.2.2 hG rfl hrm.1 hrm.2 hd hR) ⟨m_blind C, fun U hU hW => ⟨rfl, m_PX_pass C hP hS hU hW⟩⟩ rfl hn hsz hst (lv_room hroom) hdg ⟨Nat.zero_le _, Nat.zero_le _⟩) hS (fun q _ h => h) (fun q h => h) (fun r' u t H1 locs1 ht hvm hw' hB hz hk hS1 => ?_)
  obtain ⟨rfl, rfl⟩ := hw'
  rw [ht] at hB
  exact kk H1 locs1 hB hS1
end MKC
theorem m_iret {r r0 : Int32} {X0 : XT} (C : m_Cx p s m args meth c cc nL own (some .int) w0 D tys A Wf ZZ) (hP : va_P D vwCl (Wf X) H) (hS : va_S A s.heap H locs) (hdg : decode cc pc = .ok (.ireturn, 1)) (e1 : some (r, X) = some (r0, X0)) : W p l e R s m args below meth c H locs 0 0 (MQ below (m_QI D Wf A r0 X0) args s 0 0 A) (F0 m pc ls [.int r]) := by
  cases e1
  exact W.iret C.1.1 C.1.2.1 C.2.1 (fun t ht hW => ⟨⟨r, X, rfl, ⟨rfl, rfl⟩, by show va_P D vwCl (Wf X) t.heap; rw [ht]; exact hP⟩, hS.F ht⟩) hS.2.2 hdg C.2.2.1
theorem m_zret {ty : FieldType} {r r0 : Int32} {X0 : XT} (C : m_Cx p s m args meth c cc nL own (some ty) w0 D tys A Wf ZZ) (hP : va_P D vwCl (Wf X) H) (hS : va_S A s.heap H locs) (hdg : decode cc pc = .ok (.ireturn, 1)) (hn : narrow ty (.int r) = .int r) (e1 : some (r, X) = some (r0, X0)) : W p l e R s m args below meth c H locs 0 0 (MQ below (m_QI D Wf A r0 X0) args s 0 0 A) (F0 m pc ls [.int r]) := by
  cases e1
  exact W.zret C.1.1 C.1.2.1 C.2.1 hn (fun t ht hW => ⟨⟨r, X, rfl, ⟨rfl, rfl⟩, by show va_P D vwCl (Wf X) t.heap; rw [ht]; exact hP⟩, hS.F ht⟩) hS.2.2 hdg C.2.2.1
theorem m_aret {Cn : String} {b0 r r0 : Nat} {a : Nat → Nat} {X0 : XT} (C : m_Cx p s m args meth c cc nL own (some (.object Cn)) w0 D tys A Wf ZZ) (hb01 : b0 = 21 * r + 0) (hP : va_P D vwCl (Wf X) H) (hS : va_S A s.heap H locs) (hdg : decode cc pc = .ok (.areturn, 1)) (e1 : some (r, X) = some (r0, X0)) : W p l e R s m args below meth c H locs 0 0 (MQ below (m_QR D Wf A (a (21 * r0 + 0)) X0) args s 0 0 A) (F0 m pc ls [.ref (a b0)]) := by
  cases e1
  subst hb01
  exact W.aret C.1.1 C.1.2.1 C.2.1 (Or.inl ⟨_, rfl⟩) (Or.inr ⟨_, rfl⟩) (fun t ht hW => ⟨⟨X, _, rfl, rfl, rfl, by show va_P D vwCl (Wf X) t.heap; rw [ht]; exact hP⟩, hS.F ht⟩) hS.2.2 hdg C.2.2.1
theorem m_vret {X0 : XT} (C : m_Cx p s m args meth c cc nL own none w0 D tys A Wf ZZ) (hP : va_P D vwCl (Wf X) H) (hS : va_S A s.heap H locs) (hdg : decode cc pc = .ok (.return_, 1)) (e1 : some X = some X0) : W p l e R s m args below meth c H locs 0 0 (MQ below (m_QV D Wf A X0) args s 0 0 A) (F0 m pc ls []) := by
  cases e1
  exact W.vret C.1.1 C.1.2.1 C.2.1 (fun t ht hW => ⟨⟨X, rfl, rfl, by show va_P D vwCl (Wf X) t.heap; rw [ht]; exact hP⟩, hS.F ht⟩) hS.2.2 hdg C.2.2.1
theorem m_bool {v : Int32} (h : v = 0 ∨ v = 1) : narrow .boolean (.int v) = .int v ∧ fits .boolean (.int v) = true := by
  rcases h with rfl | rfl <;> exact ⟨by decide, by decide⟩
theorem m_char {v : Int32} (h : vp_nar .char v = v) : narrow .char (.int v) = .int v := by
  have e : narrow .char (.int v) = .int (vp_nar .char v) := rfl
  rw [e, h]
/-- a method's contract out of the walk of its body -/
theorem m_met {y : MethodName} {rm : Room} {bt : ByteArray} {mL : Nat} {rt : Option FieldType} {av : List Value} {Qc : Array Value → State → Outcome → State → Prop} (hy : plainName y.cls = true) (ho : y.cls = own) (hsl : (lg_sl av).length ≤ mL) (hWD : ∀ X, va_D A (Wf X)) (hZk : ∀ u U : State, u.vm.Alike U.vm → (∀ q : Nat, q < u.heap.size → ¬ A q → U.heap[q]? = u.heap[q]?) → ZZ u → ZZ U)
    (body : ∀ (p : Program) (e : Env) (s : State) (m : MethodId) (args : Array Value) (below : List Frame) (meth : Method) (c : Code), m_Cx p s m args meth c bt mL own rt (Cond.code y bt mL rt) D tys A Wf ZZ → ∀ ls : Array Slot, lv_has ls mL (lv_args 0 av) → va_P D vwCl (Wf X) s.heap → va_S A s.heap s.heap [] → W p l e rm s m args below meth c s.heap [] 0 0 (MQ below Qc args s 0 0 A) (F0 m 0 ls [])) : Met l y (Cond.code y bt mL rt :: m_tbl) rm (va_Pc av (m_PX D tys Wf ZZ X)) Qc 0 0 A := by
  subst ho
  refine Met.ofW (cc := bt) (maxL := mL) (ret := rt) hy rfl ?_
  intro p e s m args below meth c s₁ B hml hv
  obtain ⟨rfl, hP, hK, hZ⟩ := hv
  have hl := lv_entry av (n := mL) hsl
  have h := body p e s m _ below meth c ⟨⟨B.exec, B.bytes, hml, findClass_of_methodNamed B.named, atoms_spec (ws := Cond.code y bt mL rt :: m_tbl) B.pre⟩, B.returns, B.notSynchronized, hK, hWD, hZ, hZk⟩ _ hl hP va_S.rf
  rw [lg_entry_eq]
  exact h
end MKW
