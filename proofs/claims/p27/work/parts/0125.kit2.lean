-- more of the prover's own kit: longs, static methods without an answer, ends of methods that may draw
def m_bl {α : Type} (o : Option (Int64 × XT)) (k : Int64 → XT → Option α) : Option α := match o with
  | none => none
  | some q => k q.1 q.2
theorem m_bl_s {α : Type} {o : Option (Int64 × XT)} {k : Int64 → XT → Option α} {z : α} (h : m_bl o k = some z) : ∃ (r : Int64) (X : XT), o = some (r, X) ∧ k r X = some z := by
  cases o with
  | none => cases h
  | some q => exact ⟨q.1, q.2, rfl, h⟩
abbrev m_QL (D : va_G) (Wf : XT → va_W) (A : Nat → Prop) (r0 : Int64) (X0 : XT) : Array Value → State → Outcome → State → Prop := va_Ql (S := XT) (fun r X => r = r0 ∧ X = X0) (fun X t => va_P D vwCl (Wf X) t.heap) A
section MKW2
variable {p : Program} {l : Launch} {e : Env} {R : Room} {s : State} {m : MethodId} {args : Array Value} {below : List Frame} {meth : Method} {c : Code} {H : Heap} {locs : List Loc} {Q : State → Prop}
variable {cc : ByteArray} {pc : Nat} {ls : Array Slot} {rest : List Value} {D : va_G} {tys : List (ClassId × FieldType)} {A : Nat → Prop} {Wf : XT → va_W} {ZZ : State → Prop} {nL : Nat} {own : String} {ret : Option FieldType} {w0 : Cond} {X : XT}
variable {y : MethodName} {rm : Room} {bt : ByteArray} {mL index : Nat} {rt : Option FieldType} {b i ci n : Nat} {fs : List Value} {q : vw_C} {st : List Value} {r : Int32} {rl : Int64} {X1 : XT}
theorem m_callSv (C : m_Cx p s m args meth c cc nL own ret w0 D tys A Wf ZZ) (As : List Value) (rest : List Value) (hM : Met l y (Cond.code y bt mL rt :: m_tbl) rm (va_Pc As (m_PX D tys Wf ZZ X)) (m_QV D Wf A X1) 0 0 A) (hG : GoodIn (w0 :: m_tbl) (va_wsS own index y (Cond.code y bt mL rt :: m_tbl))) (hrm : rm.cells = 0 ∧ rm.slots = 0) (hd : y.cls ≠ "java/lang/invoke/MethodHandle" ∧ y.cls ≠ "java/lang/invoke/VarHandle" ∧ (parseMethodDescriptor y.desc).map (fun d => d.parameters.length) = some n) (hR : rm.frames + 1 ≤ R.frames ∧ 8 + (mL + 11) + rm.locals ≤ R.locals) (hP : va_P D vwCl (Wf X) H) (hS : va_S A s.heap H locs) (hn : As.length = n) (hsz : ls.size = nL) (hst : st = As.reverse ++ rest) (hroom : (rest.map fun v => v.category).sum ≤ 8) (hdg : decode cc pc = .ok (.invokestatic index, 3))
    (kk : ∀ (H1 : Heap) (locs1 : List Loc), va_P D vwCl (Wf X1) H1 → va_S A s.heap H1 locs1 → W p l e R s m args below meth c H1 locs1 0 0 Q (F0 m (pc + 3) ls rest)) : W p l e R s m args below meth c H locs 0 0 Q (F0 m pc ls st) := by
  refine va_callv (va_runS (As := As) (rest := rest) C.1 hM (va_cwS n C.1.2.2.2.2 hG rfl hrm.1 hrm.2 hd hR) ⟨m_blind C, fun U hU hW => ⟨rfl, m_PX_pass C hP hS hU hW⟩⟩ rfl hn hsz hst (lv_room hroom) hdg ⟨Nat.zero_le _, Nat.zero_le _⟩) hS (fun q _ h => h) (fun q h => h) (fun u t H1 locs1 ht hvm hw' hB hz hk hS1 => ?_)
  subst hw'
  rw [ht] at hB
  exact kk H1 locs1 hB hS1
theorem m_lret {X0 : XT} {r0 : Int64} (C : m_Cx p s m args meth c cc nL own (some .long) w0 D tys A Wf ZZ) (hP : va_P D vwCl (Wf X) H) (hS : va_S A s.heap H locs) (hdg : decode cc pc = .ok (.lreturn, 1)) (e1 : some (rl, X) = some (r0, X0)) : W p l e R s m args below meth c H locs 0 0 (MQ below (m_QL D Wf A r0 X0) args s 0 0 A) (F0 m pc ls [.long rl]) := by
  cases e1
  exact W.lret C.1.1 C.1.2.1 C.2.1 (fun t ht hW => ⟨⟨rl, X, rfl, ⟨rfl, rfl⟩, by show va_P D vwCl (Wf X) t.heap; rw [ht]; exact hP⟩, hS.F ht⟩) hS.2.2 hdg C.2.2.1
end MKW2
-- numbers of two sizes: a quotient of ints is a number
theorem m_num_nn {x : UInt64} (h : FP.Core.val64 x ≠ .nan) : FP.dcmp x x = some .eq := by
  unfold FP.dcmp FP.Core.dcmp FP.Core.cmp
  have h1 : FP.Core.decode FP.Core.b64 x.toNat ≠ .nan := h
  cases hd : FP.Core.decode FP.Core.b64 x.toNat with
  | nan => exact absurd hd h1
  | inf s => simp [FP.Core.order]
  | fin s c q => simp [FP.Core.order]
theorem m_num_vf {x : UInt64} (h : FP.Core.val64 x ≠ .nan) : vf_n64 x := by
  have h1 : ¬ FP.Core.infBits FP.Core.b64 < FP.Core.mag FP.Core.b64 x.toNat := fun q => h ((FP.Core.decode_nan x.toNat).mpr q)
  have e1 : FP.Core.infBits FP.Core.b64 = 0x7ff0000000000000 := by decide +kernel
  have e2 : FP.Core.mag FP.Core.b64 x.toNat = x.toNat % 2 ^ 63 := by
    show x.toNat % FP.Core.half FP.Core.b64 = _
    rw [show FP.Core.half FP.Core.b64 = 2 ^ 63 by decide +kernel]
  rw [e1, e2] at h1
  show x &&& 0x7fffffffffffffff ≤ 0x7ff0000000000000
  rw [UInt64.le_iff_toNat_le, UInt64.toNat_and]
  show x.toNat &&& 0x7fffffffffffffff ≤ 0x7ff0000000000000
  rw [show (0x7fffffffffffffff : Nat) = 2 ^ 63 - 1 from rfl, Nat.and_two_pow_sub_one_eq_mod]
  omega
theorem m_num_int (i : Int32) : ∃ (s : Bool) (c : Nat) (q : Int), FP.Core.val64 (FP.i2d i) = .fin s c q ∧ (i ≠ 0 → c ≠ 0) := by
  have hv : FP.Core.val64 (FP.i2d i) = FP.Core.decode FP.Core.b64 (FP.Core.fromInt FP.Core.b64 i.toInt) := by
    rw [FP.Core.val64_i2d]
    exact (FP.Core.decode_enc FP.Core.good_b64 (FP.Core.round_fits FP.Core.good_b64 _)).symm
  have hb : i.toInt.natAbs ≤ 2 ^ 31 := by
    have h1 := Int32.toInt_lt i
    have h2 := Int32.le_toInt i
    omega
  have h1 := FP.Core.int_mag (f := FP.Core.b64) (i := i.toInt) (j := 31) (K := 1054) FP.Core.good_b64 hb (by decide) (by decide +kernel)
  have h2 : FP.Core.mag FP.Core.b64 (FP.Core.fromInt FP.Core.b64 i.toInt) < FP.Core.infBits FP.Core.b64 := Nat.lt_of_le_of_lt h1 (by decide +kernel)
  obtain ⟨s, c, q, x1, x2, x3⟩ := FP.Core.fin_of_mag FP.Core.good_b64 h2
  refine ⟨s, c, q, hv.trans x1, fun hi hc => ?_⟩
  have hi2 : i.toInt ≠ 0 := fun h => hi (Int32.toInt_inj.mp h)
  have h3 := FP.Core.int_mag_ge (f := FP.Core.b64) (i := i.toInt) (K := 1023) FP.Core.good_b64 hi2 (by decide) (by decide +kernel) (by decide +kernel)
  subst hc
  have h4 : FP.Core.unitsOf FP.Core.b64 (FP.Core.mag FP.Core.b64 (FP.Core.fromInt FP.Core.b64 i.toInt)) = 0 := by
    rw [← x3]
    exact Nat.zero_mul _
  have h5 := FP.Core.unitsOf_eq_zero.mp h4
  rw [h5] at h3
  exact absurd h3 (by decide +kernel)
theorem m_num_div {w n : Int32} (hn : n ≠ 0) : FP.Core.val64 (FP.ddiv (FP.i2d w) (FP.i2d n)) ≠ .nan := by
  obtain ⟨s, c, q, h1, _⟩ := m_num_int w
  obtain ⟨t, d, r, g1, g2⟩ := m_num_int n
  have e : FP.Core.val64 (FP.ddiv (FP.i2d w) (FP.i2d n)) = FP.Core.quotient FP.Core.b64 (FP.Core.val64 (FP.i2d w)) (FP.Core.val64 (FP.i2d n)) := FP.Core.val64_ddiv _ _
  rw [e, h1, g1]
  simp only [FP.Core.quotient, if_neg (g2 hn)]
  exact FP.Core.roundRatio_ne_nan _ _ _ _ _
theorem m_num_alike {r x : UInt64} (h : FP.Core.val64 x ≠ .nan) (ha : alike64 r x = true) : r = x := by
  simp only [alike64, Bool.or_eq_true, decide_eq_true_eq, Bool.and_eq_true] at ha
  rcases ha with h1 | ⟨_, h2⟩
  · exact h1
  · exfalso
    have h3 := m_num_vf h
    have h4 := isNaN64_iff.mp h2
    have h5 : x.toNat &&& 0x7fffffffffffffff ≤ 0x7ff0000000000000 := by
      have q : x &&& 0x7fffffffffffffff ≤ 0x7ff0000000000000 := h3
      rw [UInt64.le_iff_toNat_le, UInt64.toNat_and] at q
      exact q
    omega
