-- the law's start: written by wip/gen/lgen27.py
def m_xc0 : XT := fun i => if i < 126 then m_x0 (i % 21) else fun _ => 0
def m_ad (h0 : Nat) (u : ((Nat → Nat) × (Nat → Nat) × Nat × (Nat × (Nat → Nat → Nat)) × Nat × (Nat → Nat))) (z : Nat → Nat) (i : Nat) : Nat := if i < 21 then u.1 i else if i < 42 then u.2.1 (i - 21) else if i < 126 then u.2.2.2.1.2 ((i - 42) / 21) ((i - 42) % 21) else if i = 126 then h0 else if i = 127 then u.2.2.1 else if i = 128 then u.2.2.2.1.1 else if i = 129 then u.2.2.2.2.1 else if i = 130 then u.2.2.2.2.2 0 else z (i - 131)
def m_ps (i : Nat) : Nat := if i < 42 then i + 1 else if i < 126 then i + 3 else if i = 126 then 0 else if i = 127 then 43 else if i = 128 then 44 else i
def m_GW (cy : Nat → ClassId) (h0 : Nat) (u : ((Nat → Nat) × (Nat → Nat) × Nat × (Nat × (Nat → Nat → Nat)) × Nat × (Nat → Nat))) : va_W := (h0, .inr (7, [.ref (u.1 0), .ref (u.2.1 0), .ref u.2.2.1, .ref u.2.2.2.2.1, .int 0])) :: (m_LW cy u.1 ++ m_LW cy u.2.1 ++ [(u.2.2.1, .inr (2, [.ref u.2.2.2.1.1, .int 0, .int 0])), (u.2.2.2.1.1, .inl (cy 3, 4, .inr (.inr (.inr (.inr (va_up (va_up (va_up (va_up (fun _ => none) (Int32.toNatClampNeg 0) (some (u.2.2.2.1.2 0 0))) (Int32.toNatClampNeg 1) (some (u.2.2.2.1.2 1 0))) (Int32.toNatClampNeg 2) (some (u.2.2.2.1.2 2 0))) (Int32.toNatClampNeg 3) (some (u.2.2.2.1.2 3 0))))))))] ++ m_LW cy (u.2.2.2.1.2 0) ++ m_LW cy (u.2.2.2.1.2 1) ++ m_LW cy (u.2.2.2.1.2 2) ++ m_LW cy (u.2.2.2.1.2 3) ++ [(u.2.2.2.2.1, .inr (5, [.ref (u.2.2.2.2.2 0), .int 0, .int 0, .int 0, .int 0, .int 0, .int 0])), ((u.2.2.2.2.2 0), .inl (cy 2, 80, .inl (fun _ => 0)))])
def m_GZ (cy : Nat → ClassId) (h0 : Nat) (u : ((Nat → Nat) × (Nat → Nat) × Nat × (Nat × (Nat → Nat → Nat)) × Nat × (Nat → Nat))) (z : Nat → Nat) : va_W := m_GW cy h0 u ++ [(z 0, .inl (cy 0, 17, .inl (fun _ => 0))), (z 1, .inl (cy 0, 48, .inl (fun _ => 0))), (z 2, .inl (cy 0, 48, .inl (fun _ => 0))), (z 3, .inl (cy 0, 48, .inl (fun _ => 0))), (z 4, .inl (cy 0, 48, .inl (fun _ => 0))), (z 5, .inl (cy 0, 48, .inl (fun _ => 0))), (z 6, .inl (cy 0, 48, .inl (fun _ => 0)))]
set_option maxHeartbeats 4000000 in
set_option maxRecDepth 100000 in
theorem m_pos (cy : Nat → ClassId) (h0 : Nat) (u : ((Nat → Nat) × (Nat → Nat) × Nat × (Nat × (Nat → Nat → Nat)) × Nat × (Nat → Nat))) (z : Nat → Nat) (i : Nat) (hi : i < 138) (hn : i ≠ 128) : (m_GZ cy h0 u z)[m_ps i]? = some (m_ad h0 u z i, m_shC (m_ad h0 u z) cy i (m_xc0 i)) := by
  match i, hi, hn with
  | 0, _, _ => rfl
  | 1, _, _ => rfl
  | 2, _, _ => rfl
  | 3, _, _ => rfl
  | 4, _, _ => rfl
  | 5, _, _ => rfl
  | 6, _, _ => rfl
  | 7, _, _ => rfl
  | 8, _, _ => rfl
  | 9, _, _ => rfl
  | 10, _, _ => rfl
  | 11, _, _ => rfl
  | 12, _, _ => rfl
  | 13, _, _ => rfl
  | 14, _, _ => rfl
  | 15, _, _ => rfl
  | 16, _, _ => rfl
  | 17, _, _ => rfl
  | 18, _, _ => rfl
  | 19, _, _ => rfl
  | 20, _, _ => rfl
  | 21, _, _ => rfl
  | 22, _, _ => rfl
  | 23, _, _ => rfl
  | 24, _, _ => rfl
  | 25, _, _ => rfl
  | 26, _, _ => rfl
  | 27, _, _ => rfl
  | 28, _, _ => rfl
  | 29, _, _ => rfl
  | 30, _, _ => rfl
  | 31, _, _ => rfl
  | 32, _, _ => rfl
  | 33, _, _ => rfl
  | 34, _, _ => rfl
  | 35, _, _ => rfl
  | 36, _, _ => rfl
  | 37, _, _ => rfl
  | 38, _, _ => rfl
  | 39, _, _ => rfl
  | 40, _, _ => rfl
  | 41, _, _ => rfl
  | 42, _, _ => rfl
  | 43, _, _ => rfl
  | 44, _, _ => rfl
  | 45, _, _ => rfl
  | 46, _, _ => rfl
  | 47, _, _ => rfl
  | 48, _, _ => rfl
  | 49, _, _ => rfl
  | 50, _, _ => rfl
  | 51, _, _ => rfl
  | 52, _, _ => rfl
  | 53, _, _ => rfl
  | 54, _, _ => rfl
  | 55, _, _ => rfl
  | 56, _, _ => rfl
  | 57, _, _ => rfl
  | 58, _, _ => rfl
  | 59, _, _ => rfl
  | 60, _, _ => rfl
  | 61, _, _ => rfl
  | 62, _, _ => rfl
  | 63, _, _ => rfl
  | 64, _, _ => rfl
  | 65, _, _ => rfl
  | 66, _, _ => rfl
  | 67, _, _ => rfl
  | 68, _, _ => rfl
  | 69, _, _ => rfl
  | 70, _, _ => rfl
  | 71, _, _ => rfl
  | 72, _, _ => rfl
  | 73, _, _ => rfl
  | 74, _, _ => rfl
  | 75, _, _ => rfl
  | 76, _, _ => rfl
  | 77, _, _ => rfl
  | 78, _, _ => rfl
  | 79, _, _ => rfl
  | 80, _, _ => rfl
  | 81, _, _ => rfl
  | 82, _, _ => rfl
  | 83, _, _ => rfl
  | 84, _, _ => rfl
  | 85, _, _ => rfl
  | 86, _, _ => rfl
  | 87, _, _ => rfl
  | 88, _, _ => rfl
  | 89, _, _ => rfl
  | 90, _, _ => rfl
  | 91, _, _ => rfl
  | 92, _, _ => rfl
  | 93, _, _ => rfl
  | 94, _, _ => rfl
  | 95, _, _ => rfl
  | 96, _, _ => rfl
  | 97, _, _ => rfl
  | 98, _, _ => rfl
  | 99, _, _ => rfl
  | 100, _, _ => rfl
  | 101, _, _ => rfl
  | 102, _, _ => rfl
  | 103, _, _ => rfl
  | 104, _, _ => rfl
  | 105, _, _ => rfl
  | 106, _, _ => rfl
  | 107, _, _ => rfl
  | 108, _, _ => rfl
  | 109, _, _ => rfl
  | 110, _, _ => rfl
  | 111, _, _ => rfl
  | 112, _, _ => rfl
  | 113, _, _ => rfl
  | 114, _, _ => rfl
  | 115, _, _ => rfl
  | 116, _, _ => rfl
  | 117, _, _ => rfl
  | 118, _, _ => rfl
  | 119, _, _ => rfl
  | 120, _, _ => rfl
  | 121, _, _ => rfl
  | 122, _, _ => rfl
  | 123, _, _ => rfl
  | 124, _, _ => rfl
  | 125, _, _ => rfl
  | 126, _, _ => rfl
  | 127, _, _ => rfl
  | 128, _, h => exact absurd rfl h
  | 129, _, _ => rfl
  | 130, _, _ => rfl
  | 131, _, _ => rfl
  | 132, _, _ => rfl
  | 133, _, _ => rfl
  | 134, _, _ => rfl
  | 135, _, _ => rfl
  | 136, _, _ => rfl
  | 137, _, _ => rfl
  | k + 138, h, _ => exact absurd h (by omega)
theorem m_pos8 (cy : Nat → ClassId) (h0 : Nat) (u : ((Nat → Nat) × (Nat → Nat) × Nat × (Nat × (Nat → Nat → Nat)) × Nat × (Nat → Nat))) (z : Nat → Nat) : (m_GZ cy h0 u z)[m_ps 128]? = some (m_ad h0 u z 128, .inl (cy 3, 4, .inr (.inr (.inr (.inr (va_up (va_up (va_up (va_up (fun _ => none) (Int32.toNatClampNeg 0) (some (u.2.2.2.1.2 0 0))) (Int32.toNatClampNeg 1) (some (u.2.2.2.1.2 1 0))) (Int32.toNatClampNeg 2) (some (u.2.2.2.1.2 2 0))) (Int32.toNatClampNeg 3) (some (u.2.2.2.1.2 3 0)))))))) := rfl
theorem m_posA (cy : Nat → ClassId) (h0 : Nat) (u : ((Nat → Nat) × (Nat → Nat) × Nat × (Nat × (Nat → Nat → Nat)) × Nat × (Nat → Nat))) (z : Nat → Nat) (i : Nat) (hi : i < 138) : ∃ e : va_E, (m_GZ cy h0 u z)[m_ps i]? = some (m_ad h0 u z i, e) := by
  by_cases hn : i = 128
  · subst hn
    exact ⟨_, m_pos8 cy h0 u z⟩
  · exact ⟨_, m_pos cy h0 u z i hi hn⟩
theorem m_cell8 {cA : ClassId} {n : Nat} {f g : Nat → Option Nat} (h : ∀ j, j < n → f j = g j) : vp_cell cA (n, .inr (.inr (.inr (.inr f)))) = vp_cell cA (n, .inr (.inr (.inr (.inr g)))) := by
  rw [vp_cell_q, vp_cell_q]
  unfold arrV
  congr 2
  funext j
  exact congrArg va_rf (h j.val j.isLt)
theorem m_GW_P {D : va_G} {cy : Nat → ClassId} {h0 : Nat} {u : ((Nat → Nat) × (Nat → Nat) × Nat × (Nat × (Nat → Nat → Nat)) × Nat × (Nat → Nat))} {z : Nat → Nat} {H : Heap} (h : va_P D vwCl (m_GZ cy h0 u z) H) : va_P D vwCl (m_WC (m_ad h0 u z) cy m_xc0) H := by
  intro k q hq
  by_cases hk : k < 138
  · rw [m_wl_at hk] at hq
    by_cases hn : k = 128
    · subst hn
      cases hq
      have h8 := h _ _ (m_pos8 cy h0 u z)
      show H[m_ad h0 u z 128]? = some (vp_cell (cy 3) (4, .inr (.inr (.inr (.inr (fun j => some (m_ad h0 u z (21 * (2 + j)))))))))
      refine Eq.trans h8 (congrArg some (m_cell8 (fun j hj => ?_)))
      match j, hj with
      | 0, _ => rfl
      | 1, _ => rfl
      | 2, _ => rfl
      | 3, _ => rfl
    · exact h (m_ps k) q (by rw [m_pos cy h0 u z k hk hn]; exact hq)
  · rw [m_wl_out hk] at hq
    cases hq
theorem m_ps_inj {i j : Nat} (hi : i < 138) (hj : j < 138) (h : m_ps i = m_ps j) : i = j := by
  unfold m_ps at h
  (repeat' split at h) <;> omega
theorem m_GW_inj {cy : Nat → ClassId} {A : Nat → Prop} {h0 : Nat} {u : ((Nat → Nat) × (Nat → Nat) × Nat × (Nat × (Nat → Nat → Nat)) × Nat × (Nat → Nat))} {z : Nat → Nat} (hD : va_D A (m_GZ cy h0 u z)) : m_inj 138 (m_ad h0 u z) := fun i j hi hj h =>
  m_ps_inj hi hj (hD.1 _ _ _ _ (m_posA cy h0 u z i hi).choose_spec (m_posA cy h0 u z j hj).choose_spec h)
theorem m_GW_A {cy : Nat → ClassId} {A : Nat → Prop} {h0 : Nat} {u : ((Nat → Nat) × (Nat → Nat) × Nat × (Nat × (Nat → Nat → Nat)) × Nat × (Nat → Nat))} {z : Nat → Nat} (hD : va_D A (m_GZ cy h0 u z)) {q : Nat} (h : m_AC (m_ad h0 u z) q) : A q := by
  obtain ⟨i, hi, rfl⟩ := h
  exact hD.2 _ _ (m_posA cy h0 u z i hi).choose_spec
theorem lw_FIRST {args : Array Value} {s : State} {A : Nat → Prop} (hts : ∀ w ∈ lw_tbl, w.before args s = true) (hgv : (Jvm.Cond.and given_1 narrow_1).before args s = true) (hA : ∀ a : Nat, a < s.heap.size → ¬ A a) : ∃ t : Nat, va_Z "GroupCommits$Settings" "FIRST" "[I" (.ref t) A s s.heap ∧ va_T .int t 4 (fun j => .int (m_first j)) A s s.heap := by
  have hs := flat_of_before _ hgv
  have h1 : (Cond.arrayOf (.static "GroupCommits$Settings" "FIRST" "[I") .int).before args s = true := hs _ (by decide +kernel)
  have h2 : (Cond.eq (.length (.static "GroupCommits$Settings" "FIRST" "[I")) (.int 4)).before args s = true := hs _ (by decide +kernel)
  have e0 : (Cond.eq (.elem (.static "GroupCommits$Settings" "FIRST" "[I") (.int 0)) (.int 6)).before args s = true := hs _ (by decide +kernel)
  have e1 : (Cond.eq (.elem (.static "GroupCommits$Settings" "FIRST" "[I") (.int 1)) (.int 16)).before args s = true := hs _ (by decide +kernel)
  have e2 : (Cond.eq (.elem (.static "GroupCommits$Settings" "FIRST" "[I") (.int 2)) (.int 4)).before args s = true := hs _ (by decide +kernel)
  have e3 : (Cond.eq (.elem (.static "GroupCommits$Settings" "FIRST" "[I") (.int 3)) (.int 1)).before args s = true := hs _ (by decide +kernel)
  obtain ⟨t, ht, hT⟩ := va_Tof (N := 4) (f := fun j => .int (m_first j)) (A := A) (by decide) h1 (va_eqt h2) (fun j hj => by
    match j, hj with
    | 0, _ => exact va_eqt e0
    | 1, _ => exact va_eqt e1
    | 2, _ => exact va_eqt e2
    | 3, _ => exact va_eqt e3) hA
  exact ⟨t, va_Zref (hts _ wz_FIRST) (hts _ (m_tbl_lw wn_X6)) ht hA, hT⟩
theorem lw_LEAST {args : Array Value} {s : State} {A : Nat → Prop} (hts : ∀ w ∈ lw_tbl, w.before args s = true) (hgv : (Jvm.Cond.and given_1 narrow_1).before args s = true) (hA : ∀ a : Nat, a < s.heap.size → ¬ A a) : ∃ t : Nat, va_Z "GroupCommits$Settings" "LEAST" "[I" (.ref t) A s s.heap ∧ va_T .int t 4 (fun j => .int (m_least j)) A s s.heap := by
  have hs := flat_of_before _ hgv
  have h1 : (Cond.arrayOf (.static "GroupCommits$Settings" "LEAST" "[I") .int).before args s = true := hs _ (by decide +kernel)
  have h2 : (Cond.eq (.length (.static "GroupCommits$Settings" "LEAST" "[I")) (.int 4)).before args s = true := hs _ (by decide +kernel)
  have e0 : (Cond.eq (.elem (.static "GroupCommits$Settings" "LEAST" "[I") (.int 0)) (.int 0)).before args s = true := hs _ (by decide +kernel)
  have e1 : (Cond.eq (.elem (.static "GroupCommits$Settings" "LEAST" "[I") (.int 1)) (.int 1)).before args s = true := hs _ (by decide +kernel)
  have e2 : (Cond.eq (.elem (.static "GroupCommits$Settings" "LEAST" "[I") (.int 2)) (.int 1)).before args s = true := hs _ (by decide +kernel)
  have e3 : (Cond.eq (.elem (.static "GroupCommits$Settings" "LEAST" "[I") (.int 3)) (.int 0)).before args s = true := hs _ (by decide +kernel)
  obtain ⟨t, ht, hT⟩ := va_Tof (N := 4) (f := fun j => .int (m_least j)) (A := A) (by decide) h1 (va_eqt h2) (fun j hj => by
    match j, hj with
    | 0, _ => exact va_eqt e0
    | 1, _ => exact va_eqt e1
    | 2, _ => exact va_eqt e2
    | 3, _ => exact va_eqt e3) hA
  exact ⟨t, va_Zref (hts _ wz_LEAST) (hts _ (m_tbl_lw wn_X6)) ht hA, hT⟩
theorem lw_GREATEST {args : Array Value} {s : State} {A : Nat → Prop} (hts : ∀ w ∈ lw_tbl, w.before args s = true) (hgv : (Jvm.Cond.and given_1 narrow_1).before args s = true) (hA : ∀ a : Nat, a < s.heap.size → ¬ A a) : ∃ t : Nat, va_Z "GroupCommits$Settings" "GREATEST" "[I" (.ref t) A s s.heap ∧ va_T .int t 4 (fun j => .int (m_greatest j)) A s s.heap := by
  have hs := flat_of_before _ hgv
  have h1 : (Cond.arrayOf (.static "GroupCommits$Settings" "GREATEST" "[I") .int).before args s = true := hs _ (by decide +kernel)
  have h2 : (Cond.eq (.length (.static "GroupCommits$Settings" "GREATEST" "[I")) (.int 4)).before args s = true := hs _ (by decide +kernel)
  have e0 : (Cond.eq (.elem (.static "GroupCommits$Settings" "GREATEST" "[I") (.int 0)) (.int 20)).before args s = true := hs _ (by decide +kernel)
  have e1 : (Cond.eq (.elem (.static "GroupCommits$Settings" "GREATEST" "[I") (.int 1)) (.int 40)).before args s = true := hs _ (by decide +kernel)
  have e2 : (Cond.eq (.elem (.static "GroupCommits$Settings" "GREATEST" "[I") (.int 2)) (.int 20)).before args s = true := hs _ (by decide +kernel)
  have e3 : (Cond.eq (.elem (.static "GroupCommits$Settings" "GREATEST" "[I") (.int 3)) (.int 1)).before args s = true := hs _ (by decide +kernel)
  obtain ⟨t, ht, hT⟩ := va_Tof (N := 4) (f := fun j => .int (m_greatest j)) (A := A) (by decide) h1 (va_eqt h2) (fun j hj => by
    match j, hj with
    | 0, _ => exact va_eqt e0
    | 1, _ => exact va_eqt e1
    | 2, _ => exact va_eqt e2
    | 3, _ => exact va_eqt e3) hA
  exact ⟨t, va_Zref (hts _ wz_GREATEST) (hts _ (m_tbl_lw wn_X6)) ht hA, hT⟩
theorem lw_ZI {args : Array Value} {s : State} (hts : ∀ w ∈ lw_tbl, w.before args s = true) (hgv : (Jvm.Cond.and given_1 narrow_1).before args s = true) : m_ZI (lw_A0 s) s :=
  ⟨⟨va_Nw.of rfl (hts _ wln_X3_11), va_Nw.of rfl (hts _ wln_X3_20), va_Nw.of rfl (hts _ wln_X3_27), va_Nw.of rfl (hts _ wln_X7_28), va_AO.of (hts _ wo_arrayOver)⟩, lw_FIRST hts hgv (fun _ h => Nat.not_le.mpr h)⟩
section LWI
variable {p : Program} {l : Launch} {e : Env} {s : State} {m : MethodId} {below : List Frame} {meth : Method} {c : Code} {H : Heap} {locs : List Loc} {Q : State → Prop} {b : Nat} {D : va_G} {cy : Nat → ClassId} {pc : Nat} {ls : Array Slot} {rest : List Value} {cells slots : Nat}
theorem lw_callI (S0 : CallFix p m c code 19 s #[Value.ref b] lw_tbl RL) (hK : va_K D vwCl (m_tc cy) s) (hZ : m_ZI (lw_A0 s) s) {y : MethodName} {rm : Room} {bt : ByteArray} {mL index lq mc ms : Nat} {σ : Type} {Wp : σ → va_W} {e0 : va_E} {wr : va_W} (hM : Met l y (Cond.code y bt mL none :: m_tbl) rm (va_Pc [.ref lq] (m_PI D cy lq H.size e0)) (m_QN D Wp (m_An lq H.size)) mc ms (m_An lq H.size)) (hy : y.name = "<init>") (hl1 : Cond.methodLink RL index y ∈ m_tbl) (hl2 : Cond.instanceMethod y ∈ m_tbl) (hl3 : Cond.initialized y.cls ∈ m_tbl) (hl4 : Cond.code y bt mL none ∈ m_tbl) (hrm : rm.cells = mc ∧ rm.slots = ms) (hd : y.cls ≠ "java/lang/invoke/MethodHandle" ∧ y.cls ≠ "java/lang/invoke/VarHandle" ∧ (parseMethodDescriptor y.desc).map (fun d => d.parameters.length) = some 0) (hR : rm.frames + 1 ≤ room_1.frames ∧ 8 + (mL + 11) + rm.locals ≤ room_1.locals) (hP : va_P D vwCl (wr ++ [(lq, e0)]) H) (hD : va_D (lw_A0 s) (wr ++ [(lq, e0)])) (hS : va_S (lw_A0 s) s.heap H locs) (hsz : ls.size = 19) (hroom : (rest.map fun v => v.category).sum ≤ 8) (hdg : decode code pc = .ok (.invokespecial index, 3)) (hf : cells + mc ≤ room_1.cells ∧ slots + ms ≤ room_1.slots)
    (kk : ∀ (u : σ) (H1 : Heap) (locs1 : List Loc), va_P D vwCl (wr ++ Wp u) H1 → va_D (lw_A0 s) (wr ++ Wp u) → va_S (lw_A0 s) s.heap H1 locs1 → W p l e room_1 s m #[Value.ref b] below meth c H1 locs1 (cells + mc) (slots + ms) Q (F0 m (pc + 3) ls rest)) : W p l e room_1 s m #[Value.ref b] below meth c H locs cells slots Q (F0 m pc ls (.ref lq :: rest)) := by
  have key : ∀ w ∈ Cond.code y bt mL none :: m_tbl, w ∈ m_tbl := by
    intro w hw
    rcases List.mem_cons.mp hw with rfl | hw
    · exact hl4
    · exact hw
  have hG : GoodIn lw_tbl (Cond.code y bt mL none :: m_tbl) := fun w hw => ⟨m_tbl_lw (key w hw), m_good w (key w hw)⟩
  have ok : ∀ w, w ∈ m_tbl → w.before #[Value.ref b] s = true := fun w h => S0.2.2.2.2 w (m_tbl_lw h)
  have atl : (wr ++ [(lq, e0)])[wr.length]? = some (lq, e0) := by simp
  have hAl : lw_A0 s lq := hD.2 _ _ atl
  have hF : ∀ q, m_An lq H.size q → lw_A0 s q := fun q h => by
    rcases h with h | h
    · rw [h]; exact hAl
    · exact Nat.le_trans hS.1 h
  have hP1 : va_P D vwCl [(lq, e0)] H := fun k q hq => by
    have hz : k < 1 := (List.getElem?_eq_some_iff.mp hq).1
    rw [show k = 0 by omega] at hq
    cases hq
    exact hP _ _ atl
  refine va_callv (va_runI (As := []) (rest := rest) S0 hM ⟨callB_of 0 S0.2.2.2.2 hG rfl hrm.1 hrm.2 (ok _ hl3) (ok _ hl1) hd hR, hy, ok _ hl2⟩ ⟨fun a U g mk q => ?_, fun U hU hW => ⟨rfl, by rw [hU], by rw [hU]; exact hP1, va_K.moved hW.alike hK, m_ZI_pass hZ hS hU hW hF⟩⟩ rfl rfl hsz rfl (lv_room hroom) hdg hf) hS (fun q _ h => hF q h) hF (fun u t H1 locs1 ht hvm hw hB hz hk hS1 => ?_)
  · obtain ⟨q0, q1, qP, qK, qZ⟩ := q
    obtain ⟨⟨z1, z2, z3, z4, z5⟩, z6⟩ := qZ
    exact ⟨q0, q1, qP, va_K.moved (u := U) (U := U.calling g mk a) (Vm.Alike.refl U.vm) qK, ⟨va_Nw.same rfl rfl z1, va_Nw.same rfl rfl z2, va_Nw.same rfl rfl z3, va_Nw.same rfl rfl z4, va_AO.moved (u := U) (U := U.calling g mk a) (Vm.Alike.refl U.vm) z5⟩, z6.choose, va_Z.moved (u := U) (U := U.calling g mk a) (Vm.Alike.refl U.vm) z6.choose_spec.1, va_T.moved (u := U) (U := U.calling g mk a) (Vm.Alike.refl U.vm) z6.choose_spec.2⟩
  · obtain ⟨hB1, hB2⟩ := hB
    rw [ht] at hB1
    obtain ⟨g1, g2⟩ := m_joinL hP hD hk hF hB1 hB2
    exact kk u H1 locs1 g1 g2 hS1
end LWI
theorem lw_arr {ty : FieldType} {args : Array Value} {s : State} (h : (Cond.arrayClass ty).before args s = true) : ∃ cA : ClassId, ArrOfT s cA ty ∧ s.vm.findClass ("[" ++ ty.toString) = some cA := by
  obtain ⟨cA, k, comp, h1, h2, h3⟩ := Cond.arrayClass_spec h
  exact ⟨cA, fun n z => ⟨fun k h => (by cases h), k, h2, comp, h3⟩, h1⟩
theorem lw_arr_int {args : Array Value} {s : State} (h : (Cond.arrayClass .int).before args s = true) : ∃ cA : ClassId, ArrOfT s cA .int ∧ va_RA s cA .int := lw_arr h
theorem lw_arr_boolean {args : Array Value} {s : State} (h : (Cond.arrayClass .boolean).before args s = true) : ∃ cA : ClassId, ArrOfT s cA .boolean ∧ va_RA s cA .boolean := lw_arr h
theorem lw_arr_char {args : Array Value} {s : State} (h : (Cond.arrayClass .char).before args s = true) : ∃ cA : ClassId, ArrOfT s cA .char ∧ va_RA s cA .char := lw_arr h
theorem lw_arr_obj {C : String} {args : Array Value} {s : State} (h : (Cond.arrayOver (.object C)).before args s = true) : ∃ cA : ClassId, ArrOfT s cA (.object C) ∧ va_RA s cA (.object C) := by
  obtain ⟨comp, cA, k, h1, h2, h3, h4, h5⟩ := Cond.arrayOver_spec h
  exact ⟨cA, fun n z => ⟨fun k h => (by cases h), k, h3, comp, h4⟩, k, comp, h3, h4, h1, h5⟩
set_option maxHeartbeats 4000000 in
theorem lw_known {args : Array Value} {s : State} (hts : ∀ w ∈ lw_tbl, w.before args s = true) : ∃ (D : va_G) (cy : Nat → ClassId), va_K D vwCl (m_tc cy) s := by
  have ok : ∀ {w}, w ∈ m_tbl → w.before args s = true := fun h => hts _ (m_tbl_lw h)
  obtain ⟨c0, i0, k0⟩ := u_known (C := RX0) (T := TX0) (N := 9) (n := 9) hts (fun w h => m_tbl_lw (inX0 w h)) (ok wb_X0)
  obtain ⟨c1, i1, k1⟩ := u_known (C := RX1) (T := TX1) (N := 5) (n := 5) hts (fun w h => m_tbl_lw (inX1 w h)) (ok wb_X1)
  obtain ⟨c2, i2, k2⟩ := u_known (C := RX2) (T := TX2) (N := 3) (n := 3) hts (fun w h => m_tbl_lw (inX2 w h)) (ok wb_X2)
  obtain ⟨c3, i3, k3⟩ := u_known (C := RX3) (T := TX3) (N := 12) (n := 12) hts (fun w h => m_tbl_lw (inX3 w h)) (ok wb_X3)
  obtain ⟨c4, i4, k4⟩ := u_known (C := RX4) (T := TX4) (N := 3) (n := 3) hts (fun w h => m_tbl_lw (inX4 w h)) (ok wb_X4)
  obtain ⟨c5, i5, k5⟩ := u_known (C := RX5) (T := TX5) (N := 7) (n := 7) hts (fun w h => m_tbl_lw (inX5 w h)) (ok wb_X5)
  obtain ⟨c6, i6, k6⟩ := u_known (C := RX6) (T := TX6) (N := 1) (n := 1) hts (fun w h => m_tbl_lw (inX6 w h)) (ok wb_X6)
  obtain ⟨c7, i7, k7⟩ := u_known (C := RX7) (T := TX7) (N := 5) (n := 5) hts (fun w h => m_tbl_lw (inX7 w h)) (ok wb_X7)
  obtain ⟨aI, hI1, hI2⟩ := lw_arr_int (ok wa_int)
  obtain ⟨aZ, hZ1, hZ2⟩ := lw_arr_boolean (ok wa_boolean)
  obtain ⟨aC, hC1, hC2⟩ := lw_arr_char (ok wa_char)
  obtain ⟨aL, hL1, hL2⟩ := lw_arr_obj (hts _ wo_arrayOver)
  refine ⟨(fun k => match k with | 0 => c0 | 1 => c1 | 2 => c2 | 3 => c3 | 4 => c4 | 5 => c5 | 6 => c6 | _ => c7, fun k => match k with | 0 => i0 | 1 => i1 | 2 => i2 | 3 => i3 | 4 => i4 | 5 => i5 | 6 => i6 | _ => i7), fun k => match k with | 0 => aI | 1 => aZ | 2 => aC | _ => aL, ?_, ?_⟩
  · intro k q hq
    match k, hq with
    | 0, hq => cases hq; exact k0
    | 1, hq => cases hq; exact k1
    | 2, hq => cases hq; exact k2
    | 3, hq => cases hq; exact k3
    | 4, hq => cases hq; exact k4
    | 5, hq => cases hq; exact k5
    | 6, hq => cases hq; exact k6
    | 7, hq => cases hq; exact k7
    | k + 8, hq => simp [vwCl] at hq
  · intro k q hq
    match k, hq with
    | 0, hq => cases hq; exact ⟨hI1, hI2⟩
    | 1, hq => cases hq; exact ⟨hZ1, hZ2⟩
    | 2, hq => cases hq; exact ⟨hC1, hC2⟩
    | 3, hq => cases hq; exact ⟨hL1, hL2⟩
    | k + 4, hq => simp [m_tc] at hq
theorem lw_newa {p : Program} {l : Launch} {e : Env} {s : State} {m : MethodId} {below : List Frame} {meth : Method} {c : Code} {H : Heap} {locs : List Loc} {Q : State → Prop} {b : Nat} {D : va_G} {cy : Nat → ClassId} {pc : Nat} {ls : Array Slot} {rest : List Value} {cells slots : Nat} {ws : va_W} (hx : p.tables.exec = Jvm.exec) (hb : c.code = code) (hw : (Cond.arrayClass .int).before #[Value.ref b] s = true) (hK : va_K D vwCl (m_tc cy) s) (wl : va_W) (hP : va_P D vwCl (ws ++ wl) H) (hD : va_D (lw_A0 s) (ws ++ wl)) (hS : va_S (lw_A0 s) s.heap H locs) {n : Int32} {N' : Nat} (hn : ¬ n < 0) (hN : n.toNatClampNeg = N') (hbytes : N' * componentBytes .int ≤ 536870912) (hcells : cells + 1 ≤ room_1.cells) (hslots : slots + N' ≤ room_1.slots) (hdg : decode code pc = .ok (.newarray .int, 2))
    (kk : ∀ (q : Nat) (H1 : Heap), va_P D vwCl (ws ++ (wl ++ [(q, .inl (cy 0, N', .inl (fun _ => 0)))])) H1 → va_D (lw_A0 s) (ws ++ (wl ++ [(q, .inl (cy 0, N', .inl (fun _ => 0)))])) → va_S (lw_A0 s) s.heap H1 locs → W p l e room_1 s m #[Value.ref b] below meth c H1 locs (cells + 1) (slots + N') Q (F0 m (pc + 2) ls (.ref q :: rest))) : W p l e room_1 s m #[Value.ref b] below meth c H locs cells slots Q (F0 m pc ls (.int n :: rest)) := by
  refine va_newa (atype := .int) (ty := .int) hx hb hw rfl hK hP hD hS (fun _ h => h) (N' := N') (show ∀ cA : ClassId, vp_cell cA (N', .inl (fun _ => 0)) = arrV cA N' (fun _ => defaultValue .int) from fun _ => rfl) hn hN hbytes hcells hslots hdg (fun q cA H1 hK1 h1 h2 h3 => ?_)
  have e1 : cA = cy 0 := by
    have g1 := (hK1.2 (m_tc cy).length (cA, .int) (by simp)).2
    have g2 := (hK.2 0 _ rfl).2
    exact m_RA_inj g1 g2
  subst e1
  rw [List.append_assoc] at h1 h2
  exact kk q H1 h1 h2 h3
def m_xq : XT := (m_up (m_up (m_up (m_up (m_up (m_up (m_up m_xc0 131 (upd (m_xc0 131) (Int32.toNatClampNeg 1) 2)) 131 (upd ((m_up m_xc0 131 (upd (m_xc0 131) (Int32.toNatClampNeg 1) 2)) 131) (Int32.toNatClampNeg 2) 6)) 131 (upd ((m_up (m_up m_xc0 131 (upd (m_xc0 131) (Int32.toNatClampNeg 1) 2)) 131 (upd ((m_up m_xc0 131 (upd (m_xc0 131) (Int32.toNatClampNeg 1) 2)) 131) (Int32.toNatClampNeg 2) 6)) 131) (Int32.toNatClampNeg 3) 16)) 131 (upd ((m_up (m_up (m_up m_xc0 131 (upd (m_xc0 131) (Int32.toNatClampNeg 1) 2)) 131 (upd ((m_up m_xc0 131 (upd (m_xc0 131) (Int32.toNatClampNeg 1) 2)) 131) (Int32.toNatClampNeg 2) 6)) 131 (upd ((m_up (m_up m_xc0 131 (upd (m_xc0 131) (Int32.toNatClampNeg 1) 2)) 131 (upd ((m_up m_xc0 131 (upd (m_xc0 131) (Int32.toNatClampNeg 1) 2)) 131) (Int32.toNatClampNeg 2) 6)) 131) (Int32.toNatClampNeg 3) 16)) 131) (Int32.toNatClampNeg 4) 4)) 131 (upd ((m_up (m_up (m_up (m_up m_xc0 131 (upd (m_xc0 131) (Int32.toNatClampNeg 1) 2)) 131 (upd ((m_up m_xc0 131 (upd (m_xc0 131) (Int32.toNatClampNeg 1) 2)) 131) (Int32.toNatClampNeg 2) 6)) 131 (upd ((m_up (m_up m_xc0 131 (upd (m_xc0 131) (Int32.toNatClampNeg 1) 2)) 131 (upd ((m_up m_xc0 131 (upd (m_xc0 131) (Int32.toNatClampNeg 1) 2)) 131) (Int32.toNatClampNeg 2) 6)) 131) (Int32.toNatClampNeg 3) 16)) 131 (upd ((m_up (m_up (m_up m_xc0 131 (upd (m_xc0 131) (Int32.toNatClampNeg 1) 2)) 131 (upd ((m_up m_xc0 131 (upd (m_xc0 131) (Int32.toNatClampNeg 1) 2)) 131) (Int32.toNatClampNeg 2) 6)) 131 (upd ((m_up (m_up m_xc0 131 (upd (m_xc0 131) (Int32.toNatClampNeg 1) 2)) 131 (upd ((m_up m_xc0 131 (upd (m_xc0 131) (Int32.toNatClampNeg 1) 2)) 131) (Int32.toNatClampNeg 2) 6)) 131) (Int32.toNatClampNeg 3) 16)) 131) (Int32.toNatClampNeg 4) 4)) 131) (Int32.toNatClampNeg 5) 1)) 131 (upd ((m_up (m_up (m_up (m_up (m_up m_xc0 131 (upd (m_xc0 131) (Int32.toNatClampNeg 1) 2)) 131 (upd ((m_up m_xc0 131 (upd (m_xc0 131) (Int32.toNatClampNeg 1) 2)) 131) (Int32.toNatClampNeg 2) 6)) 131 (upd ((m_up (m_up m_xc0 131 (upd (m_xc0 131) (Int32.toNatClampNeg 1) 2)) 131 (upd ((m_up m_xc0 131 (upd (m_xc0 131) (Int32.toNatClampNeg 1) 2)) 131) (Int32.toNatClampNeg 2) 6)) 131) (Int32.toNatClampNeg 3) 16)) 131 (upd ((m_up (m_up (m_up m_xc0 131 (upd (m_xc0 131) (Int32.toNatClampNeg 1) 2)) 131 (upd ((m_up m_xc0 131 (upd (m_xc0 131) (Int32.toNatClampNeg 1) 2)) 131) (Int32.toNatClampNeg 2) 6)) 131 (upd ((m_up (m_up m_xc0 131 (upd (m_xc0 131) (Int32.toNatClampNeg 1) 2)) 131 (upd ((m_up m_xc0 131 (upd (m_xc0 131) (Int32.toNatClampNeg 1) 2)) 131) (Int32.toNatClampNeg 2) 6)) 131) (Int32.toNatClampNeg 3) 16)) 131) (Int32.toNatClampNeg 4) 4)) 131 (upd ((m_up (m_up (m_up (m_up m_xc0 131 (upd (m_xc0 131) (Int32.toNatClampNeg 1) 2)) 131 (upd ((m_up m_xc0 131 (upd (m_xc0 131) (Int32.toNatClampNeg 1) 2)) 131) (Int32.toNatClampNeg 2) 6)) 131 (upd ((m_up (m_up m_xc0 131 (upd (m_xc0 131) (Int32.toNatClampNeg 1) 2)) 131 (upd ((m_up m_xc0 131 (upd (m_xc0 131) (Int32.toNatClampNeg 1) 2)) 131) (Int32.toNatClampNeg 2) 6)) 131) (Int32.toNatClampNeg 3) 16)) 131 (upd ((m_up (m_up (m_up m_xc0 131 (upd (m_xc0 131) (Int32.toNatClampNeg 1) 2)) 131 (upd ((m_up m_xc0 131 (upd (m_xc0 131) (Int32.toNatClampNeg 1) 2)) 131) (Int32.toNatClampNeg 2) 6)) 131 (upd ((m_up (m_up m_xc0 131 (upd (m_xc0 131) (Int32.toNatClampNeg 1) 2)) 131 (upd ((m_up m_xc0 131 (upd (m_xc0 131) (Int32.toNatClampNeg 1) 2)) 131) (Int32.toNatClampNeg 2) 6)) 131) (Int32.toNatClampNeg 3) 16)) 131) (Int32.toNatClampNeg 4) 4)) 131) (Int32.toNatClampNeg 5) 1)) 131) (Int32.toNatClampNeg 8) (-5))) 131 (upd ((m_up (m_up (m_up (m_up (m_up (m_up m_xc0 131 (upd (m_xc0 131) (Int32.toNatClampNeg 1) 2)) 131 (upd ((m_up m_xc0 131 (upd (m_xc0 131) (Int32.toNatClampNeg 1) 2)) 131) (Int32.toNatClampNeg 2) 6)) 131 (upd ((m_up (m_up m_xc0 131 (upd (m_xc0 131) (Int32.toNatClampNeg 1) 2)) 131 (upd ((m_up m_xc0 131 (upd (m_xc0 131) (Int32.toNatClampNeg 1) 2)) 131) (Int32.toNatClampNeg 2) 6)) 131) (Int32.toNatClampNeg 3) 16)) 131 (upd ((m_up (m_up (m_up m_xc0 131 (upd (m_xc0 131) (Int32.toNatClampNeg 1) 2)) 131 (upd ((m_up m_xc0 131 (upd (m_xc0 131) (Int32.toNatClampNeg 1) 2)) 131) (Int32.toNatClampNeg 2) 6)) 131 (upd ((m_up (m_up m_xc0 131 (upd (m_xc0 131) (Int32.toNatClampNeg 1) 2)) 131 (upd ((m_up m_xc0 131 (upd (m_xc0 131) (Int32.toNatClampNeg 1) 2)) 131) (Int32.toNatClampNeg 2) 6)) 131) (Int32.toNatClampNeg 3) 16)) 131) (Int32.toNatClampNeg 4) 4)) 131 (upd ((m_up (m_up (m_up (m_up m_xc0 131 (upd (m_xc0 131) (Int32.toNatClampNeg 1) 2)) 131 (upd ((m_up m_xc0 131 (upd (m_xc0 131) (Int32.toNatClampNeg 1) 2)) 131) (Int32.toNatClampNeg 2) 6)) 131 (upd ((m_up (m_up m_xc0 131 (upd (m_xc0 131) (Int32.toNatClampNeg 1) 2)) 131 (upd ((m_up m_xc0 131 (upd (m_xc0 131) (Int32.toNatClampNeg 1) 2)) 131) (Int32.toNatClampNeg 2) 6)) 131) (Int32.toNatClampNeg 3) 16)) 131 (upd ((m_up (m_up (m_up m_xc0 131 (upd (m_xc0 131) (Int32.toNatClampNeg 1) 2)) 131 (upd ((m_up m_xc0 131 (upd (m_xc0 131) (Int32.toNatClampNeg 1) 2)) 131) (Int32.toNatClampNeg 2) 6)) 131 (upd ((m_up (m_up m_xc0 131 (upd (m_xc0 131) (Int32.toNatClampNeg 1) 2)) 131 (upd ((m_up m_xc0 131 (upd (m_xc0 131) (Int32.toNatClampNeg 1) 2)) 131) (Int32.toNatClampNeg 2) 6)) 131) (Int32.toNatClampNeg 3) 16)) 131) (Int32.toNatClampNeg 4) 4)) 131) (Int32.toNatClampNeg 5) 1)) 131 (upd ((m_up (m_up (m_up (m_up (m_up m_xc0 131 (upd (m_xc0 131) (Int32.toNatClampNeg 1) 2)) 131 (upd ((m_up m_xc0 131 (upd (m_xc0 131) (Int32.toNatClampNeg 1) 2)) 131) (Int32.toNatClampNeg 2) 6)) 131 (upd ((m_up (m_up m_xc0 131 (upd (m_xc0 131) (Int32.toNatClampNeg 1) 2)) 131 (upd ((m_up m_xc0 131 (upd (m_xc0 131) (Int32.toNatClampNeg 1) 2)) 131) (Int32.toNatClampNeg 2) 6)) 131) (Int32.toNatClampNeg 3) 16)) 131 (upd ((m_up (m_up (m_up m_xc0 131 (upd (m_xc0 131) (Int32.toNatClampNeg 1) 2)) 131 (upd ((m_up m_xc0 131 (upd (m_xc0 131) (Int32.toNatClampNeg 1) 2)) 131) (Int32.toNatClampNeg 2) 6)) 131 (upd ((m_up (m_up m_xc0 131 (upd (m_xc0 131) (Int32.toNatClampNeg 1) 2)) 131 (upd ((m_up m_xc0 131 (upd (m_xc0 131) (Int32.toNatClampNeg 1) 2)) 131) (Int32.toNatClampNeg 2) 6)) 131) (Int32.toNatClampNeg 3) 16)) 131) (Int32.toNatClampNeg 4) 4)) 131 (upd ((m_up (m_up (m_up (m_up m_xc0 131 (upd (m_xc0 131) (Int32.toNatClampNeg 1) 2)) 131 (upd ((m_up m_xc0 131 (upd (m_xc0 131) (Int32.toNatClampNeg 1) 2)) 131) (Int32.toNatClampNeg 2) 6)) 131 (upd ((m_up (m_up m_xc0 131 (upd (m_xc0 131) (Int32.toNatClampNeg 1) 2)) 131 (upd ((m_up m_xc0 131 (upd (m_xc0 131) (Int32.toNatClampNeg 1) 2)) 131) (Int32.toNatClampNeg 2) 6)) 131) (Int32.toNatClampNeg 3) 16)) 131 (upd ((m_up (m_up (m_up m_xc0 131 (upd (m_xc0 131) (Int32.toNatClampNeg 1) 2)) 131 (upd ((m_up m_xc0 131 (upd (m_xc0 131) (Int32.toNatClampNeg 1) 2)) 131) (Int32.toNatClampNeg 2) 6)) 131 (upd ((m_up (m_up m_xc0 131 (upd (m_xc0 131) (Int32.toNatClampNeg 1) 2)) 131 (upd ((m_up m_xc0 131 (upd (m_xc0 131) (Int32.toNatClampNeg 1) 2)) 131) (Int32.toNatClampNeg 2) 6)) 131) (Int32.toNatClampNeg 3) 16)) 131) (Int32.toNatClampNeg 4) 4)) 131) (Int32.toNatClampNeg 5) 1)) 131) (Int32.toNatClampNeg 8) (-5))) 131) (Int32.toNatClampNeg 9) (-5)))
set_option maxHeartbeats 4000000 in
set_option maxRecDepth 100000 in
/-- from the entry to the loop: all comes down to what the loop's function says -/
theorem start_of {N : Nat} {p : Program} {e : Env} {s : State} {m : MethodId} {below : List Frame} {meth : Method} {c : Code} (l : Launch) {b L : Nat} {xs : Nat → Int32} (hL : L ≤ 260) {X0 : XT} (hf : f_L_law_85 xs L N N 0 m_xq = some (1, X0)) (C0 : lw_At p s m meth c b L xs) : W p l e room_1 s m #[Value.ref b] below meth c s.heap [] 0 0 (lw_Z below #[Value.ref b] s) (entryFrame m ([Value.ref b] : List Value).toArray 19) := by
  obtain ⟨hx, hb, hr, hml, hown, hts, hX, hbl, hlocks, hgv⟩ := id C0
  have ok : ∀ {w}, w ∈ m_tbl → w.before #[Value.ref b] s = true := fun h => hts _ (m_tbl_lw h)
  have S0 : CallFix p m c code 19 s #[Value.ref b] lw_tbl RL := ⟨hx, hb, hml, hown, hts⟩
  obtain ⟨D, cy, hK⟩ := lw_known hts
  have hZ := lw_ZI hts hgv
  have hA : ∀ q : Nat, s.heap.size ≤ q → lw_A0 s q := fun _ h => h
  have hS : va_S (lw_A0 s) s.heap s.heap [] := va_S.rf
  have hP : va_P D vwCl [] s.heap := fun k q h => by simp at h
  have hD : va_D (lw_A0 s) [] := ⟨fun i j p q h => by simp at h, fun k q h => by simp at h⟩
  have hl := lv_entry ([.ref b]) (n := 19) (Nat.le_of_ble_eq_true rfl)
  rw [lg_entry_eq]
  generalize (lg_sl ([.ref b]) ++ List.replicate (19 - (lg_sl ([.ref b])).length) Slot.unset).toArray = ls at hl ⊢
  have hl : lv_has ls 19 [(0, .ref b)] := hl
  refine va_new hx hb (ci := 7) (C := RX7) (T := TX7) (N := 5) hts (fun w h => m_tbl_lw (inX7 w h)) tyX7 tyX7_ok hown (ok wk_L_59) (ok wb_X7) (ok wn_X7) hK hP hD hS hA rfl (fs := [.null, .null, .null, .null, .int 0]) (by decide) (Nat.le_of_ble_eq_true rfl) (Nat.le_of_ble_eq_true rfl) dL_law_0 (fun q1 H hP hD hS => ?_)
  refine lv_dup hx hb dL_law_3 rfl ?_
  refine lw_callI S0 hK hZ (wr := []) (i_X7_init l D cy q1 H.size) rfl wl_L_123 wi_X7_init wn_X7 wc_X7_init ⟨rfl, rfl⟩ hv_X7_init.2 ⟨Nat.le_of_ble_eq_true rfl, Nat.le_of_ble_eq_true rfl⟩ hP hD hS hl.1 (Nat.le_of_ble_eq_true rfl) dL_law_4 ⟨Nat.le_of_ble_eq_true rfl, Nat.le_of_ble_eq_true rfl⟩ (fun u H locs hP hD hS => ?_)
  have hP : va_P D vwCl (m_GW cy q1 u ++ []) H := by rw [List.append_nil]; exact hP
  have hD : va_D (lw_A0 s) (m_GW cy q1 u ++ []) := by rw [List.append_nil]; exact hD
  refine lv_astore_n (lv' := [(1, .ref q1), (0, .ref b)]) hx hb dL_law_7 rfl hl (by decide) rfl (fun ls hl => ?_)
  refine lv_bipush (v := 17) hx hb dL_law_8 (by decide) ?_
  refine lw_newa hx hb (ok wa_int) hK [] hP hD hS (N' := 17) (by decide) rfl (Nat.le_of_ble_eq_true rfl) (Nat.le_of_ble_eq_true rfl) (Nat.le_of_ble_eq_true rfl) dL_law_10 (fun z0 H hP hD hS => ?_)
  have hP : va_P D vwCl (m_GW cy q1 u ++ [(z0, .inl (cy 0, 17, .inl (fun _ => 0)))]) H := hP
  have hD : va_D (lw_A0 s) (m_GW cy q1 u ++ [(z0, .inl (cy 0, 17, .inl (fun _ => 0)))]) := hD
  refine lv_astore_n (lv' := [(2, .ref z0), (1, .ref q1), (0, .ref b)]) hx hb dL_law_12 rfl hl (by decide) rfl (fun ls hl => ?_)
  refine lv_bipush (v := 48) hx hb dL_law_13 (by decide) ?_
  refine lw_newa hx hb (ok wa_int) hK [(z0, .inl (cy 0, 17, .inl (fun _ => 0)))] hP hD hS (N' := 48) (by decide) rfl (Nat.le_of_ble_eq_true rfl) (Nat.le_of_ble_eq_true rfl) (Nat.le_of_ble_eq_true rfl) dL_law_15 (fun z1 H hP hD hS => ?_)
  have hP : va_P D vwCl (m_GW cy q1 u ++ [(z0, .inl (cy 0, 17, .inl (fun _ => 0))), (z1, .inl (cy 0, 48, .inl (fun _ => 0)))]) H := hP
  have hD : va_D (lw_A0 s) (m_GW cy q1 u ++ [(z0, .inl (cy 0, 17, .inl (fun _ => 0))), (z1, .inl (cy 0, 48, .inl (fun _ => 0)))]) := hD
  refine lv_astore_n (lv' := [(3, .ref z1), (2, .ref z0), (1, .ref q1), (0, .ref b)]) hx hb dL_law_17 rfl hl (by decide) rfl (fun ls hl => ?_)
  refine lv_bipush (v := 48) hx hb dL_law_18 (by decide) ?_
  refine lw_newa hx hb (ok wa_int) hK [(z0, .inl (cy 0, 17, .inl (fun _ => 0))), (z1, .inl (cy 0, 48, .inl (fun _ => 0)))] hP hD hS (N' := 48) (by decide) rfl (Nat.le_of_ble_eq_true rfl) (Nat.le_of_ble_eq_true rfl) (Nat.le_of_ble_eq_true rfl) dL_law_20 (fun z2 H hP hD hS => ?_)
  have hP : va_P D vwCl (m_GW cy q1 u ++ [(z0, .inl (cy 0, 17, .inl (fun _ => 0))), (z1, .inl (cy 0, 48, .inl (fun _ => 0))), (z2, .inl (cy 0, 48, .inl (fun _ => 0)))]) H := hP
  have hD : va_D (lw_A0 s) (m_GW cy q1 u ++ [(z0, .inl (cy 0, 17, .inl (fun _ => 0))), (z1, .inl (cy 0, 48, .inl (fun _ => 0))), (z2, .inl (cy 0, 48, .inl (fun _ => 0)))]) := hD
  refine lv_astore (lv' := [(4, .ref z2), (3, .ref z1), (2, .ref z0), (1, .ref q1), (0, .ref b)]) hx hb dL_law_22 hl (by decide) rfl (fun ls hl => ?_)
  refine lv_bipush (v := 48) hx hb dL_law_24 (by decide) ?_
  refine lw_newa hx hb (ok wa_int) hK [(z0, .inl (cy 0, 17, .inl (fun _ => 0))), (z1, .inl (cy 0, 48, .inl (fun _ => 0))), (z2, .inl (cy 0, 48, .inl (fun _ => 0)))] hP hD hS (N' := 48) (by decide) rfl (Nat.le_of_ble_eq_true rfl) (Nat.le_of_ble_eq_true rfl) (Nat.le_of_ble_eq_true rfl) dL_law_26 (fun z3 H hP hD hS => ?_)
  have hP : va_P D vwCl (m_GW cy q1 u ++ [(z0, .inl (cy 0, 17, .inl (fun _ => 0))), (z1, .inl (cy 0, 48, .inl (fun _ => 0))), (z2, .inl (cy 0, 48, .inl (fun _ => 0))), (z3, .inl (cy 0, 48, .inl (fun _ => 0)))]) H := hP
  have hD : va_D (lw_A0 s) (m_GW cy q1 u ++ [(z0, .inl (cy 0, 17, .inl (fun _ => 0))), (z1, .inl (cy 0, 48, .inl (fun _ => 0))), (z2, .inl (cy 0, 48, .inl (fun _ => 0))), (z3, .inl (cy 0, 48, .inl (fun _ => 0)))]) := hD
  refine lv_astore (lv' := [(5, .ref z3), (4, .ref z2), (3, .ref z1), (2, .ref z0), (1, .ref q1), (0, .ref b)]) hx hb dL_law_28 hl (by decide) rfl (fun ls hl => ?_)
  refine lv_bipush (v := 48) hx hb dL_law_30 (by decide) ?_
  refine lw_newa hx hb (ok wa_int) hK [(z0, .inl (cy 0, 17, .inl (fun _ => 0))), (z1, .inl (cy 0, 48, .inl (fun _ => 0))), (z2, .inl (cy 0, 48, .inl (fun _ => 0))), (z3, .inl (cy 0, 48, .inl (fun _ => 0)))] hP hD hS (N' := 48) (by decide) rfl (Nat.le_of_ble_eq_true rfl) (Nat.le_of_ble_eq_true rfl) (Nat.le_of_ble_eq_true rfl) dL_law_32 (fun z4 H hP hD hS => ?_)
  have hP : va_P D vwCl (m_GW cy q1 u ++ [(z0, .inl (cy 0, 17, .inl (fun _ => 0))), (z1, .inl (cy 0, 48, .inl (fun _ => 0))), (z2, .inl (cy 0, 48, .inl (fun _ => 0))), (z3, .inl (cy 0, 48, .inl (fun _ => 0))), (z4, .inl (cy 0, 48, .inl (fun _ => 0)))]) H := hP
  have hD : va_D (lw_A0 s) (m_GW cy q1 u ++ [(z0, .inl (cy 0, 17, .inl (fun _ => 0))), (z1, .inl (cy 0, 48, .inl (fun _ => 0))), (z2, .inl (cy 0, 48, .inl (fun _ => 0))), (z3, .inl (cy 0, 48, .inl (fun _ => 0))), (z4, .inl (cy 0, 48, .inl (fun _ => 0)))]) := hD
  refine lv_astore (lv' := [(6, .ref z4), (5, .ref z3), (4, .ref z2), (3, .ref z1), (2, .ref z0), (1, .ref q1), (0, .ref b)]) hx hb dL_law_34 hl (by decide) rfl (fun ls hl => ?_)
  refine lv_bipush (v := 48) hx hb dL_law_36 (by decide) ?_
  refine lw_newa hx hb (ok wa_int) hK [(z0, .inl (cy 0, 17, .inl (fun _ => 0))), (z1, .inl (cy 0, 48, .inl (fun _ => 0))), (z2, .inl (cy 0, 48, .inl (fun _ => 0))), (z3, .inl (cy 0, 48, .inl (fun _ => 0))), (z4, .inl (cy 0, 48, .inl (fun _ => 0)))] hP hD hS (N' := 48) (by decide) rfl (Nat.le_of_ble_eq_true rfl) (Nat.le_of_ble_eq_true rfl) (Nat.le_of_ble_eq_true rfl) dL_law_38 (fun z5 H hP hD hS => ?_)
  have hP : va_P D vwCl (m_GW cy q1 u ++ [(z0, .inl (cy 0, 17, .inl (fun _ => 0))), (z1, .inl (cy 0, 48, .inl (fun _ => 0))), (z2, .inl (cy 0, 48, .inl (fun _ => 0))), (z3, .inl (cy 0, 48, .inl (fun _ => 0))), (z4, .inl (cy 0, 48, .inl (fun _ => 0))), (z5, .inl (cy 0, 48, .inl (fun _ => 0)))]) H := hP
  have hD : va_D (lw_A0 s) (m_GW cy q1 u ++ [(z0, .inl (cy 0, 17, .inl (fun _ => 0))), (z1, .inl (cy 0, 48, .inl (fun _ => 0))), (z2, .inl (cy 0, 48, .inl (fun _ => 0))), (z3, .inl (cy 0, 48, .inl (fun _ => 0))), (z4, .inl (cy 0, 48, .inl (fun _ => 0))), (z5, .inl (cy 0, 48, .inl (fun _ => 0)))]) := hD
  refine lv_astore (lv' := [(7, .ref z5), (6, .ref z4), (5, .ref z3), (4, .ref z2), (3, .ref z1), (2, .ref z0), (1, .ref q1), (0, .ref b)]) hx hb dL_law_40 hl (by decide) rfl (fun ls hl => ?_)
  refine lv_bipush (v := 48) hx hb dL_law_42 (by decide) ?_
  refine lw_newa hx hb (ok wa_int) hK [(z0, .inl (cy 0, 17, .inl (fun _ => 0))), (z1, .inl (cy 0, 48, .inl (fun _ => 0))), (z2, .inl (cy 0, 48, .inl (fun _ => 0))), (z3, .inl (cy 0, 48, .inl (fun _ => 0))), (z4, .inl (cy 0, 48, .inl (fun _ => 0))), (z5, .inl (cy 0, 48, .inl (fun _ => 0)))] hP hD hS (N' := 48) (by decide) rfl (Nat.le_of_ble_eq_true rfl) (Nat.le_of_ble_eq_true rfl) (Nat.le_of_ble_eq_true rfl) dL_law_44 (fun z6 H hP hD hS => ?_)
  have hP : va_P D vwCl (m_GW cy q1 u ++ [(z0, .inl (cy 0, 17, .inl (fun _ => 0))), (z1, .inl (cy 0, 48, .inl (fun _ => 0))), (z2, .inl (cy 0, 48, .inl (fun _ => 0))), (z3, .inl (cy 0, 48, .inl (fun _ => 0))), (z4, .inl (cy 0, 48, .inl (fun _ => 0))), (z5, .inl (cy 0, 48, .inl (fun _ => 0))), (z6, .inl (cy 0, 48, .inl (fun _ => 0)))]) H := hP
  have hD : va_D (lw_A0 s) (m_GW cy q1 u ++ [(z0, .inl (cy 0, 17, .inl (fun _ => 0))), (z1, .inl (cy 0, 48, .inl (fun _ => 0))), (z2, .inl (cy 0, 48, .inl (fun _ => 0))), (z3, .inl (cy 0, 48, .inl (fun _ => 0))), (z4, .inl (cy 0, 48, .inl (fun _ => 0))), (z5, .inl (cy 0, 48, .inl (fun _ => 0))), (z6, .inl (cy 0, 48, .inl (fun _ => 0)))]) := hD
  refine lv_astore (lv' := [(8, .ref z6), (7, .ref z5), (6, .ref z4), (5, .ref z3), (4, .ref z2), (3, .ref z1), (2, .ref z0), (1, .ref q1), (0, .ref b)]) hx hb dL_law_46 hl (by decide) rfl (fun ls hl => ?_)
  obtain ⟨z, hz⟩ : ∃ z : Nat → Nat, z = (fun k => match k with | 0 => z0 | 1 => z1 | 2 => z2 | 3 => z3 | 4 => z4 | 5 => z5 | _ => z6) := ⟨_, rfl⟩
  have hP : va_P D vwCl (m_GZ cy q1 u z) H := by rw [hz]; exact hP
  have hD : va_D (lw_A0 s) (m_GZ cy q1 u z) := by rw [hz]; exact hD
  have hl : lv_has ls 19 [(8, .ref (m_ad q1 u z 137)), (7, .ref (m_ad q1 u z 136)), (6, .ref (m_ad q1 u z 135)), (5, .ref (m_ad q1 u z 134)), (4, .ref (m_ad q1 u z 133)), (3, .ref (m_ad q1 u z 132)), (2, .ref (m_ad q1 u z 131)), (1, .ref (m_ad q1 u z 126)), (0, .ref b)] := by rw [hz]; exact hl
  clear hz
  have hAC : ∀ q, m_AC (m_ad q1 u z) q → s.heap.size ≤ q := fun q h => m_GW_A hD h
  have hZC : m_ZC (m_ad q1 u z) s := ⟨lw_LEAST hts hgv (fun q h h2 => absurd (hAC q h2) (Nat.not_le.mpr h)), lw_GREATEST hts hgv (fun q h h2 => absurd (hAC q h2) (Nat.not_le.mpr h))⟩
  have K : lw_K p s m meth c b L xs D (m_ad q1 u z) cy := ⟨C0, hK, hZC, hAC, m_GW_inj hD⟩
  have hP := m_GW_P hP
  clear hD
  generalize hgx : m_xc0 = X at hP
  refine W.widen (k := 600000) (n := 7302250) (Nat.le_of_ble_eq_true rfl) (Nat.le_of_ble_eq_true rfl) ?_
  refine W.base ?_
  generalize ha : m_ad q1 u z = a at hl hP K
  clear hZC hAC
  generalize hd : s.drawn = d0
  have hd0 : s.drawn.sameBut d0 lw_cs := by rw [← hd]; exact Drawn.sameBut.refl s.drawn lw_cs
  refine lv_aload_n hx hb dL_law_48 rfl (lv_at hl 6 rfl) ?_
  refine lv_iconst (v := 1) hx hb dL_law_49 (by decide) ?_
  refine lv_iconst (v := 2) hx hb dL_law_50 (by decide) ?_
  refine lw_ist (j := 1) (x := 2) K mC_131 mCs_131 (by decide) hP hS dL_law_51 (fun H locs hP hS => ?_)
  refine lv_aload_n hx hb dL_law_52 rfl (lv_at hl 6 rfl) ?_
  refine lv_iconst (v := 2) hx hb dL_law_53 (by decide) ?_
  refine lv_bipush (v := 6) hx hb dL_law_54 (by decide) ?_
  refine lw_ist (j := 2) (x := 6) K mC_131 mCs_131 (by decide) hP hS dL_law_56 (fun H locs hP hS => ?_)
  refine lv_aload_n hx hb dL_law_57 rfl (lv_at hl 6 rfl) ?_
  refine lv_iconst (v := 3) hx hb dL_law_58 (by decide) ?_
  refine lv_bipush (v := 16) hx hb dL_law_59 (by decide) ?_
  refine lw_ist (j := 3) (x := 16) K mC_131 mCs_131 (by decide) hP hS dL_law_61 (fun H locs hP hS => ?_)
  refine lv_aload_n hx hb dL_law_62 rfl (lv_at hl 6 rfl) ?_
  refine lv_iconst (v := 4) hx hb dL_law_63 (by decide) ?_
  refine lv_iconst (v := 4) hx hb dL_law_64 (by decide) ?_
  refine lw_ist (j := 4) (x := 4) K mC_131 mCs_131 (by decide) hP hS dL_law_65 (fun H locs hP hS => ?_)
  refine lv_aload_n hx hb dL_law_66 rfl (lv_at hl 6 rfl) ?_
  refine lv_iconst (v := 5) hx hb dL_law_67 (by decide) ?_
  refine lv_iconst (v := 1) hx hb dL_law_68 (by decide) ?_
  refine lw_ist (j := 5) (x := 1) K mC_131 mCs_131 (by decide) hP hS dL_law_69 (fun H locs hP hS => ?_)
  refine lv_aload_n hx hb dL_law_70 rfl (lv_at hl 6 rfl) ?_
  refine lv_bipush (v := 8) hx hb dL_law_71 (by decide) ?_
  refine lv_bipush (v := (-5)) hx hb dL_law_73 (by decide) ?_
  refine lw_ist (j := 8) (x := (-5)) K mC_131 mCs_131 (by decide) hP hS dL_law_75 (fun H locs hP hS => ?_)
  refine lv_aload_n hx hb dL_law_76 rfl (lv_at hl 6 rfl) ?_
  refine lv_bipush (v := 9) hx hb dL_law_77 (by decide) ?_
  refine lv_bipush (v := (-5)) hx hb dL_law_79 (by decide) ?_
  refine lw_ist (j := 9) (x := (-5)) K mC_131 mCs_131 (by decide) hP hS dL_law_81 (fun H locs hP hS => ?_)
  refine lv_iconst (v := 0) hx hb dL_law_82 (by decide) ?_
  refine lv_istore (lv' := [(9, .int 0), (8, .ref (a 137)), (7, .ref (a 136)), (6, .ref (a 135)), (5, .ref (a 134)), (4, .ref (a 133)), (3, .ref (a 132)), (2, .ref (a 131)), (1, .ref (a 126)), (0, .ref b)]) hx hb dL_law_83 hl (by decide) rfl (fun ls hl => ?_)
  subst hgx
  exact w_L_law_85 l D a cy N hL K N _ _ hf d0 hd0 H locs ls hP hS (lv_sub hl [9, 8, 7, 6, 5, 4, 3, 2, 1, 0] rfl)
