-- the law's start: written by wip/gen/sgen.py
def m_xc0 : XT := fun i => if i < 126 then m_x0 (i % 21) else fun _ => 0
def m_ad (h0 : Nat) (u : ((Nat → Nat) × (Nat → Nat) × Nat × (Nat × (Nat → Nat → Nat)) × Nat × (Nat → Nat))) (i : Nat) : Nat := if i < 21 then u.1 i else if i < 42 then u.2.1 (i - 21) else if i < 126 then u.2.2.2.1.2 ((i - 42) / 21) ((i - 42) % 21) else if i = 126 then h0 else if i = 127 then u.2.2.1 else if i = 128 then u.2.2.2.1.1 else if i = 129 then u.2.2.2.2.1 else u.2.2.2.2.2 0
def m_ps (i : Nat) : Nat := if i < 42 then i + 1 else if i < 126 then i + 3 else if i = 126 then 0 else if i = 127 then 43 else if i = 128 then 44 else i
def m_GW (cy : Nat → ClassId) (h0 : Nat) (u : ((Nat → Nat) × (Nat → Nat) × Nat × (Nat × (Nat → Nat → Nat)) × Nat × (Nat → Nat))) : va_W := (h0, .inr (7, [.ref (u.1 0), .ref (u.2.1 0), .ref u.2.2.1, .ref u.2.2.2.2.1, .int 0])) :: (m_LW cy u.1 ++ m_LW cy u.2.1 ++ [(u.2.2.1, .inr (2, [.ref u.2.2.2.1.1, .int 0, .int 0])), (u.2.2.2.1.1, .inl (cy 3, 4, .inr (.inr (.inr (.inr (va_up (va_up (va_up (va_up (fun _ => none) (Int32.toNatClampNeg 0) (some (u.2.2.2.1.2 0 0))) (Int32.toNatClampNeg 1) (some (u.2.2.2.1.2 1 0))) (Int32.toNatClampNeg 2) (some (u.2.2.2.1.2 2 0))) (Int32.toNatClampNeg 3) (some (u.2.2.2.1.2 3 0))))))))] ++ m_LW cy (u.2.2.2.1.2 0) ++ m_LW cy (u.2.2.2.1.2 1) ++ m_LW cy (u.2.2.2.1.2 2) ++ m_LW cy (u.2.2.2.1.2 3) ++ [(u.2.2.2.2.1, .inr (5, [.ref (u.2.2.2.2.2 0), .int 0, .int 0, .int 0, .int 0, .int 0, .int 0])), ((u.2.2.2.2.2 0), .inl (cy 2, 80, .inl (fun _ => 0)))])
set_option maxHeartbeats 4000000 in
set_option maxRecDepth 100000 in
theorem m_pos (cy : Nat → ClassId) (h0 : Nat) (u : ((Nat → Nat) × (Nat → Nat) × Nat × (Nat × (Nat → Nat → Nat)) × Nat × (Nat → Nat))) (i : Nat) (hi : i < 131) (hn : i ≠ 128) : (m_GW cy h0 u)[m_ps i]? = some (m_ad h0 u i, m_shC (m_ad h0 u) cy i (m_xc0 i)) := by
  match i, hi, hn with
  | 0, _, _ => rfl
  | 1, _, _ => rfl
  | 2, _, _ => rfl
  | 3, _, _ => rfl
  | 4, _, _ => rfl
  | 5, _, _ => rfl
  | 6, _, _ => rfl
  | 7, _, _ => rfl
  | 8, _, _ => rfl
  | 9, _, _ => rfl
  | 10, _, _ => rfl
  | 11, _, _ => rfl
  | 12, _, _ => rfl
  | 13, _, _ => rfl
  | 14, _, _ => rfl
  | 15, _, _ => rfl
  | 16, _, _ => rfl
  | 17, _, _ => rfl
  | 18, _, _ => rfl
  | 19, _, _ => rfl
  | 20, _, _ => rfl
  | 21, _, _ => rfl
  | 22, _, _ => rfl
  | 23, _, _ => rfl
  | 24, _, _ => rfl
  | 25, _, _ => rfl
  | 26, _, _ => rfl
  | 27, _, _ => rfl
  | 28, _, _ => rfl
  | 29, _, _ => rfl
  | 30, _, _ => rfl
  | 31, _, _ => rfl
  | 32, _, _ => rfl
  | 33, _, _ => rfl
  | 34, _, _ => rfl
  | 35, _, _ => rfl
  | 36, _, _ => rfl
  | 37, _, _ => rfl
  | 38, _, _ => rfl
  | 39, _, _ => rfl
  | 40, _, _ => rfl
  | 41, _, _ => rfl
  | 42, _, _ => rfl
  | 43, _, _ => rfl
  | 44, _, _ => rfl
  | 45, _, _ => rfl
  | 46, _, _ => rfl
  | 47, _, _ => rfl
  | 48, _, _ => rfl
  | 49, _, _ => rfl
  | 50, _, _ => rfl
  | 51, _, _ => rfl
  | 52, _, _ => rfl
  | 53, _, _ => rfl
  | 54, _, _ => rfl
  | 55, _, _ => rfl
  | 56, _, _ => rfl
  | 57, _, _ => rfl
  | 58, _, _ => rfl
  | 59, _, _ => rfl
  | 60, _, _ => rfl
  | 61, _, _ => rfl
  | 62, _, _ => rfl
  | 63, _, _ => rfl
  | 64, _, _ => rfl
  | 65, _, _ => rfl
  | 66, _, _ => rfl
  | 67, _, _ => rfl
  | 68, _, _ => rfl
  | 69, _, _ => rfl
  | 70, _, _ => rfl
  | 71, _, _ => rfl
  | 72, _, _ => rfl
  | 73, _, _ => rfl
  | 74, _, _ => rfl
  | 75, _, _ => rfl
  | 76, _, _ => rfl
  | 77, _, _ => rfl
  | 78, _, _ => rfl
  | 79, _, _ => rfl
  | 80, _, _ => rfl
  | 81, _, _ => rfl
  | 82, _, _ => rfl
  | 83, _, _ => rfl
  | 84, _, _ => rfl
  | 85, _, _ => rfl
  | 86, _, _ => rfl
  | 87, _, _ => rfl
  | 88, _, _ => rfl
  | 89, _, _ => rfl
  | 90, _, _ => rfl
  | 91, _, _ => rfl
  | 92, _, _ => rfl
  | 93, _, _ => rfl
  | 94, _, _ => rfl
  | 95, _, _ => rfl
  | 96, _, _ => rfl
  | 97, _, _ => rfl
  | 98, _, _ => rfl
  | 99, _, _ => rfl
  | 100, _, _ => rfl
  | 101, _, _ => rfl
  | 102, _, _ => rfl
  | 103, _, _ => rfl
  | 104, _, _ => rfl
  | 105, _, _ => rfl
  | 106, _, _ => rfl
  | 107, _, _ => rfl
  | 108, _, _ => rfl
  | 109, _, _ => rfl
  | 110, _, _ => rfl
  | 111, _, _ => rfl
  | 112, _, _ => rfl
  | 113, _, _ => rfl
  | 114, _, _ => rfl
  | 115, _, _ => rfl
  | 116, _, _ => rfl
  | 117, _, _ => rfl
  | 118, _, _ => rfl
  | 119, _, _ => rfl
  | 120, _, _ => rfl
  | 121, _, _ => rfl
  | 122, _, _ => rfl
  | 123, _, _ => rfl
  | 124, _, _ => rfl
  | 125, _, _ => rfl
  | 126, _, _ => rfl
  | 127, _, _ => rfl
  | 128, _, h => exact absurd rfl h
  | 129, _, _ => rfl
  | 130, _, _ => rfl
  | k + 131, h, _ => exact absurd h (by omega)
theorem m_pos8 (cy : Nat → ClassId) (h0 : Nat) (u : ((Nat → Nat) × (Nat → Nat) × Nat × (Nat × (Nat → Nat → Nat)) × Nat × (Nat → Nat))) : (m_GW cy h0 u)[m_ps 128]? = some (m_ad h0 u 128, .inl (cy 3, 4, .inr (.inr (.inr (.inr (va_up (va_up (va_up (va_up (fun _ => none) (Int32.toNatClampNeg 0) (some (u.2.2.2.1.2 0 0))) (Int32.toNatClampNeg 1) (some (u.2.2.2.1.2 1 0))) (Int32.toNatClampNeg 2) (some (u.2.2.2.1.2 2 0))) (Int32.toNatClampNeg 3) (some (u.2.2.2.1.2 3 0)))))))) := rfl
theorem m_posA (cy : Nat → ClassId) (h0 : Nat) (u : ((Nat → Nat) × (Nat → Nat) × Nat × (Nat × (Nat → Nat → Nat)) × Nat × (Nat → Nat))) (i : Nat) (hi : i < 131) : ∃ e : va_E, (m_GW cy h0 u)[m_ps i]? = some (m_ad h0 u i, e) := by
  by_cases hn : i = 128
  · subst hn
    exact ⟨_, m_pos8 cy h0 u⟩
  · exact ⟨_, m_pos cy h0 u i hi hn⟩
theorem m_cell8 {cA : ClassId} {n : Nat} {f g : Nat → Option Nat} (h : ∀ j, j < n → f j = g j) : vp_cell cA (n, .inr (.inr (.inr (.inr f)))) = vp_cell cA (n, .inr (.inr (.inr (.inr g)))) := by
  rw [vp_cell_q, vp_cell_q]
  unfold arrV
  congr 2
  funext j
  exact congrArg va_rf (h j.val j.isLt)
theorem m_GW_P {D : va_G} {cy : Nat → ClassId} {h0 : Nat} {u : ((Nat → Nat) × (Nat → Nat) × Nat × (Nat × (Nat → Nat → Nat)) × Nat × (Nat → Nat))} {H : Heap} (h : va_P D vwCl (m_GW cy h0 u) H) : va_P D vwCl (m_WC (m_ad h0 u) cy m_xc0) H := by
  intro k q hq
  by_cases hk : k < 131
  · rw [m_wl_at hk] at hq
    by_cases hn : k = 128
    · subst hn
      cases hq
      have h8 := h _ _ (m_pos8 cy h0 u)
      show H[m_ad h0 u 128]? = some (vp_cell (cy 3) (4, .inr (.inr (.inr (.inr (fun j => some (m_ad h0 u (21 * (2 + j)))))))))
      refine Eq.trans h8 (congrArg some (m_cell8 (fun j hj => ?_)))
      match j, hj with
      | 0, _ => rfl
      | 1, _ => rfl
      | 2, _ => rfl
      | 3, _ => rfl
    · exact h (m_ps k) q (by rw [m_pos cy h0 u k hk hn]; exact hq)
  · rw [m_wl_out hk] at hq
    cases hq
theorem m_ps_inj {i j : Nat} (hi : i < 131) (hj : j < 131) (h : m_ps i = m_ps j) : i = j := by
  unfold m_ps at h
  (repeat' split at h) <;> omega
theorem m_GW_inj {cy : Nat → ClassId} {A : Nat → Prop} {h0 : Nat} {u : ((Nat → Nat) × (Nat → Nat) × Nat × (Nat × (Nat → Nat → Nat)) × Nat × (Nat → Nat))} (hD : va_D A (m_GW cy h0 u)) : m_inj 131 (m_ad h0 u) := fun i j hi hj h =>
  m_ps_inj hi hj (hD.1 _ _ _ _ (m_posA cy h0 u i hi).choose_spec (m_posA cy h0 u j hj).choose_spec h)
theorem m_GW_A {cy : Nat → ClassId} {A : Nat → Prop} {h0 : Nat} {u : ((Nat → Nat) × (Nat → Nat) × Nat × (Nat × (Nat → Nat → Nat)) × Nat × (Nat → Nat))} (hD : va_D A (m_GW cy h0 u)) {q : Nat} (h : m_AC (m_ad h0 u) q) : A q := by
  obtain ⟨i, hi, rfl⟩ := h
  exact hD.2 _ _ (m_posA cy h0 u i hi).choose_spec
theorem m_WM_inj {cy : Nat → ClassId} {A : Nat → Prop} {a : Nat → Nat} {Y : XT} (hD : va_D A (m_WM a cy Y)) : m_inj 6 a := fun i j hi hj h => hD.1 _ _ _ _ (m_wl_at hi) (m_wl_at hj) h
theorem m_WM_A {cy : Nat → ClassId} {A : Nat → Prop} {a : Nat → Nat} {Y : XT} (hD : va_D A (m_WM a cy Y)) {q : Nat} (h : m_AM a q) : A q := by
  obtain ⟨i, hi, rfl⟩ := h
  exact hD.2 _ _ (m_wl_at hi)
theorem lw_FIRST {args : Array Value} {s : State} {A : Nat → Prop} (hts : ∀ w ∈ lw_tbl, w.before args s = true) (hgv : (Jvm.Cond.and given_1 narrow_1).before args s = true) (hA : ∀ a : Nat, a < s.heap.size → ¬ A a) : ∃ t : Nat, va_Z "GroupCommits$Settings" "FIRST" "[I" (.ref t) A s s.heap ∧ va_T .int t 4 (fun j => .int (m_first j)) A s s.heap := by
  have hs := flat_of_before _ hgv
  have h1 : (Cond.arrayOf (.static "GroupCommits$Settings" "FIRST" "[I") .int).before args s = true := hs _ (by decide +kernel)
  have h2 : (Cond.eq (.length (.static "GroupCommits$Settings" "FIRST" "[I")) (.int 4)).before args s = true := hs _ (by decide +kernel)
  have e0 : (Cond.eq (.elem (.static "GroupCommits$Settings" "FIRST" "[I") (.int 0)) (.int 6)).before args s = true := hs _ (by decide +kernel)
  have e1 : (Cond.eq (.elem (.static "GroupCommits$Settings" "FIRST" "[I") (.int 1)) (.int 16)).before args s = true := hs _ (by decide +kernel)
  have e2 : (Cond.eq (.elem (.static "GroupCommits$Settings" "FIRST" "[I") (.int 2)) (.int 4)).before args s = true := hs _ (by decide +kernel)
  have e3 : (Cond.eq (.elem (.static "GroupCommits$Settings" "FIRST" "[I") (.int 3)) (.int 1)).before args s = true := hs _ (by decide +kernel)
  obtain ⟨t, ht, hT⟩ := va_Tof (N := 4) (f := fun j => .int (m_first j)) (A := A) (by decide) h1 (va_eqt h2) (fun j hj => by
    match j, hj with
    | 0, _ => exact va_eqt e0
    | 1, _ => exact va_eqt e1
    | 2, _ => exact va_eqt e2
    | 3, _ => exact va_eqt e3) hA
  exact ⟨t, va_Zref (hts _ wz_FIRST) (hts _ (m_tbl_lw wn_X6)) ht hA, hT⟩
theorem lw_LEAST {args : Array Value} {s : State} {A : Nat → Prop} (hts : ∀ w ∈ lw_tbl, w.before args s = true) (hgv : (Jvm.Cond.and given_1 narrow_1).before args s = true) (hA : ∀ a : Nat, a < s.heap.size → ¬ A a) : ∃ t : Nat, va_Z "GroupCommits$Settings" "LEAST" "[I" (.ref t) A s s.heap ∧ va_T .int t 4 (fun j => .int (m_least j)) A s s.heap := by
  have hs := flat_of_before _ hgv
  have h1 : (Cond.arrayOf (.static "GroupCommits$Settings" "LEAST" "[I") .int).before args s = true := hs _ (by decide +kernel)
  have h2 : (Cond.eq (.length (.static "GroupCommits$Settings" "LEAST" "[I")) (.int 4)).before args s = true := hs _ (by decide +kernel)
  have e0 : (Cond.eq (.elem (.static "GroupCommits$Settings" "LEAST" "[I") (.int 0)) (.int 0)).before args s = true := hs _ (by decide +kernel)
  have e1 : (Cond.eq (.elem (.static "GroupCommits$Settings" "LEAST" "[I") (.int 1)) (.int 1)).before args s = true := hs _ (by decide +kernel)
  have e2 : (Cond.eq (.elem (.static "GroupCommits$Settings" "LEAST" "[I") (.int 2)) (.int 1)).before args s = true := hs _ (by decide +kernel)
  have e3 : (Cond.eq (.elem (.static "GroupCommits$Settings" "LEAST" "[I") (.int 3)) (.int 0)).before args s = true := hs _ (by decide +kernel)
  obtain ⟨t, ht, hT⟩ := va_Tof (N := 4) (f := fun j => .int (m_least j)) (A := A) (by decide) h1 (va_eqt h2) (fun j hj => by
    match j, hj with
    | 0, _ => exact va_eqt e0
    | 1, _ => exact va_eqt e1
    | 2, _ => exact va_eqt e2
    | 3, _ => exact va_eqt e3) hA
  exact ⟨t, va_Zref (hts _ wz_LEAST) (hts _ (m_tbl_lw wn_X6)) ht hA, hT⟩
theorem lw_GREATEST {args : Array Value} {s : State} {A : Nat → Prop} (hts : ∀ w ∈ lw_tbl, w.before args s = true) (hgv : (Jvm.Cond.and given_1 narrow_1).before args s = true) (hA : ∀ a : Nat, a < s.heap.size → ¬ A a) : ∃ t : Nat, va_Z "GroupCommits$Settings" "GREATEST" "[I" (.ref t) A s s.heap ∧ va_T .int t 4 (fun j => .int (m_greatest j)) A s s.heap := by
  have hs := flat_of_before _ hgv
  have h1 : (Cond.arrayOf (.static "GroupCommits$Settings" "GREATEST" "[I") .int).before args s = true := hs _ (by decide +kernel)
  have h2 : (Cond.eq (.length (.static "GroupCommits$Settings" "GREATEST" "[I")) (.int 4)).before args s = true := hs _ (by decide +kernel)
  have e0 : (Cond.eq (.elem (.static "GroupCommits$Settings" "GREATEST" "[I") (.int 0)) (.int 20)).before args s = true := hs _ (by decide +kernel)
  have e1 : (Cond.eq (.elem (.static "GroupCommits$Settings" "GREATEST" "[I") (.int 1)) (.int 40)).before args s = true := hs _ (by decide +kernel)
  have e2 : (Cond.eq (.elem (.static "GroupCommits$Settings" "GREATEST" "[I") (.int 2)) (.int 20)).before args s = true := hs _ (by decide +kernel)
  have e3 : (Cond.eq (.elem (.static "GroupCommits$Settings" "GREATEST" "[I") (.int 3)) (.int 1)).before args s = true := hs _ (by decide +kernel)
  obtain ⟨t, ht, hT⟩ := va_Tof (N := 4) (f := fun j => .int (m_greatest j)) (A := A) (by decide) h1 (va_eqt h2) (fun j hj => by
    match j, hj with
    | 0, _ => exact va_eqt e0
    | 1, _ => exact va_eqt e1
    | 2, _ => exact va_eqt e2
    | 3, _ => exact va_eqt e3) hA
  exact ⟨t, va_Zref (hts _ wz_GREATEST) (hts _ (m_tbl_lw wn_X6)) ht hA, hT⟩
theorem lw_ZI {args : Array Value} {s : State} (hts : ∀ w ∈ lw_tbl, w.before args s = true) (hgv : (Jvm.Cond.and given_1 narrow_1).before args s = true) : m_ZI (lw_A0 s) s :=
  ⟨⟨va_Nw.of rfl (hts _ wln_X3_11), va_Nw.of rfl (hts _ wln_X3_20), va_Nw.of rfl (hts _ wln_X3_27), va_Nw.of rfl (hts _ wln_X7_28), va_AO.of (hts _ wo_arrayOver)⟩, lw_FIRST hts hgv (fun _ h => Nat.not_le.mpr h)⟩
section LWI
variable {p : Program} {l : Launch} {e : Env} {s : State} {m : MethodId} {below : List Frame} {meth : Method} {c : Code} {H : Heap} {locs : List Loc} {Q : State → Prop} {b : Nat} {D : va_G} {cy : Nat → ClassId} {pc : Nat} {ls : Array Slot} {rest : List Value} {cells slots : Nat}
theorem lw_callI (S0 : CallFix p m c code 8 s #[Value.ref b] lw_tbl RL) (hK : va_K D vwCl (m_tc cy) s) (hZ : m_ZI (lw_A0 s) s) {y : MethodName} {rm : Room} {bt : ByteArray} {mL index lq mc ms : Nat} {σ : Type} {Wp : σ → va_W} {e0 : va_E} {wr : va_W} (hM : Met l y (Cond.code y bt mL none :: m_tbl) rm (va_Pc [.ref lq] (m_PI D cy lq H.size e0)) (m_QN D Wp (m_An lq H.size)) mc ms (m_An lq H.size)) (hy : y.name = "<init>") (hl1 : Cond.methodLink RL index y ∈ m_tbl) (hl2 : Cond.instanceMethod y ∈ m_tbl) (hl3 : Cond.initialized y.cls ∈ m_tbl) (hl4 : Cond.code y bt mL none ∈ m_tbl) (hrm : rm.cells = mc ∧ rm.slots = ms) (hd : y.cls ≠ "java/lang/invoke/MethodHandle" ∧ y.cls ≠ "java/lang/invoke/VarHandle" ∧ (parseMethodDescriptor y.desc).map (fun d => d.parameters.length) = some 0) (hR : rm.frames + 1 ≤ room_1.frames ∧ 8 + (mL + 11) + rm.locals ≤ room_1.locals) (hP : va_P D vwCl (wr ++ [(lq, e0)]) H) (hD : va_D (lw_A0 s) (wr ++ [(lq, e0)])) (hS : va_S (lw_A0 s) s.heap H locs) (hsz : ls.size = 8) (hroom : (rest.map fun v => v.category).sum ≤ 8) (hdg : decode code pc = .ok (.invokespecial index, 3)) (hf : cells + mc ≤ room_1.cells ∧ slots + ms ≤ room_1.slots)
    (kk : ∀ (u : σ) (H1 : Heap) (locs1 : List Loc), va_P D vwCl (wr ++ Wp u) H1 → va_D (lw_A0 s) (wr ++ Wp u) → va_S (lw_A0 s) s.heap H1 locs1 → W p l e room_1 s m #[Value.ref b] below meth c H1 locs1 (cells + mc) (slots + ms) Q (F0 m (pc + 3) ls rest)) : W p l e room_1 s m #[Value.ref b] below meth c H locs cells slots Q (F0 m pc ls (.ref lq :: rest)) := by
  have key : ∀ w ∈ Cond.code y bt mL none :: m_tbl, w ∈ m_tbl := by
    intro w hw
    rcases List.mem_cons.mp hw with rfl | hw
    · exact hl4
    · exact hw
  have hG : GoodIn lw_tbl (Cond.code y bt mL none :: m_tbl) := fun w hw => ⟨m_tbl_lw (key w hw), m_good w (key w hw)⟩
  have ok : ∀ w, w ∈ m_tbl → w.before #[Value.ref b] s = true := fun w h => S0.2.2.2.2 w (m_tbl_lw h)
  have atl : (wr ++ [(lq, e0)])[wr.length]? = some (lq, e0) := by simp
  have hAl : lw_A0 s lq := hD.2 _ _ atl
  have hF : ∀ q, m_An lq H.size q → lw_A0 s q := fun q h => by
    rcases h with h | h
    · rw [h]; exact hAl
    · exact Nat.le_trans hS.1 h
  have hP1 : va_P D vwCl [(lq, e0)] H := fun k q hq => by
    have hz : k < 1 := (List.getElem?_eq_some_iff.mp hq).1
    rw [show k = 0 by omega] at hq
    cases hq
    exact hP _ _ atl
  refine va_callv (va_runI (As := []) (rest := rest) S0 hM ⟨callB_of 0 S0.2.2.2.2 hG rfl hrm.1 hrm.2 (ok _ hl3) (ok _ hl1) hd hR, hy, ok _ hl2⟩ ⟨fun a U g mk q => ?_, fun U hU hW => ⟨rfl, by rw [hU], by rw [hU]; exact hP1, va_K.moved hW.alike hK, m_ZI_pass hZ hS hU hW hF⟩⟩ rfl rfl hsz rfl (lv_room hroom) hdg hf) hS (fun q _ h => hF q h) hF (fun u t H1 locs1 ht hvm hw hB hz hk hS1 => ?_)
  · obtain ⟨q0, q1, qP, qK, qZ⟩ := q
    obtain ⟨⟨z1, z2, z3, z4, z5⟩, z6⟩ := qZ
    exact ⟨q0, q1, qP, va_K.moved (u := U) (U := U.calling g mk a) (Vm.Alike.refl U.vm) qK, ⟨va_Nw.same rfl rfl z1, va_Nw.same rfl rfl z2, va_Nw.same rfl rfl z3, va_Nw.same rfl rfl z4, va_AO.moved (u := U) (U := U.calling g mk a) (Vm.Alike.refl U.vm) z5⟩, z6.choose, va_Z.moved (u := U) (U := U.calling g mk a) (Vm.Alike.refl U.vm) z6.choose_spec.1, va_T.moved (u := U) (U := U.calling g mk a) (Vm.Alike.refl U.vm) z6.choose_spec.2⟩
  · obtain ⟨hB1, hB2⟩ := hB
    rw [ht] at hB1
    obtain ⟨g1, g2⟩ := m_joinL hP hD hk hF hB1 hB2
    exact kk u H1 locs1 g1 g2 hS1
end LWI
theorem lw_arr {ty : FieldType} {args : Array Value} {s : State} (h : (Cond.arrayClass ty).before args s = true) : ∃ cA : ClassId, ArrOfT s cA ty ∧ s.vm.findClass ("[" ++ ty.toString) = some cA := by
  obtain ⟨cA, k, comp, h1, h2, h3⟩ := Cond.arrayClass_spec h
  exact ⟨cA, fun n z => ⟨fun k h => (by cases h), k, h2, comp, h3⟩, h1⟩
theorem lw_arr_int {args : Array Value} {s : State} (h : (Cond.arrayClass .int).before args s = true) : ∃ cA : ClassId, ArrOfT s cA .int ∧ va_RA s cA .int := lw_arr h
theorem lw_arr_boolean {args : Array Value} {s : State} (h : (Cond.arrayClass .boolean).before args s = true) : ∃ cA : ClassId, ArrOfT s cA .boolean ∧ va_RA s cA .boolean := lw_arr h
theorem lw_arr_char {args : Array Value} {s : State} (h : (Cond.arrayClass .char).before args s = true) : ∃ cA : ClassId, ArrOfT s cA .char ∧ va_RA s cA .char := lw_arr h
theorem lw_arr_obj {C : String} {args : Array Value} {s : State} (h : (Cond.arrayOver (.object C)).before args s = true) : ∃ cA : ClassId, ArrOfT s cA (.object C) ∧ va_RA s cA (.object C) := by
  obtain ⟨comp, cA, k, h1, h2, h3, h4, h5⟩ := Cond.arrayOver_spec h
  exact ⟨cA, fun n z => ⟨fun k h => (by cases h), k, h3, comp, h4⟩, k, comp, h3, h4, h1, h5⟩
set_option maxHeartbeats 4000000 in
theorem lw_known {args : Array Value} {s : State} (hts : ∀ w ∈ lw_tbl, w.before args s = true) : ∃ (D : va_G) (cy : Nat → ClassId), va_K D vwCl (m_tc cy) s := by
  have ok : ∀ {w}, w ∈ m_tbl → w.before args s = true := fun h => hts _ (m_tbl_lw h)
  obtain ⟨c0, i0, k0⟩ := u_known (C := RX0) (T := TX0) (N := 9) (n := 9) hts (fun w h => m_tbl_lw (inX0 w h)) (ok wb_X0)
  obtain ⟨c1, i1, k1⟩ := u_known (C := RX1) (T := TX1) (N := 5) (n := 5) hts (fun w h => m_tbl_lw (inX1 w h)) (ok wb_X1)
  obtain ⟨c2, i2, k2⟩ := u_known (C := RX2) (T := TX2) (N := 3) (n := 3) hts (fun w h => m_tbl_lw (inX2 w h)) (ok wb_X2)
  obtain ⟨c3, i3, k3⟩ := u_known (C := RX3) (T := TX3) (N := 12) (n := 12) hts (fun w h => m_tbl_lw (inX3 w h)) (ok wb_X3)
  obtain ⟨c4, i4, k4⟩ := u_known (C := RX4) (T := TX4) (N := 3) (n := 3) hts (fun w h => m_tbl_lw (inX4 w h)) (ok wb_X4)
  obtain ⟨c5, i5, k5⟩ := u_known (C := RX5) (T := TX5) (N := 7) (n := 7) hts (fun w h => m_tbl_lw (inX5 w h)) (ok wb_X5)
  obtain ⟨c6, i6, k6⟩ := u_known (C := RX6) (T := TX6) (N := 1) (n := 1) hts (fun w h => m_tbl_lw (inX6 w h)) (ok wb_X6)
  obtain ⟨c7, i7, k7⟩ := u_known (C := RX7) (T := TX7) (N := 5) (n := 5) hts (fun w h => m_tbl_lw (inX7 w h)) (ok wb_X7)
  obtain ⟨c8, i8, k8⟩ := u_known (C := RX8) (T := TX8) (N := 13) (n := 13) hts (fun w h => m_tbl_lw (inX8 w h)) (ok wb_X8)
  obtain ⟨aI, hI1, hI2⟩ := lw_arr_int (ok wa_int)
  obtain ⟨aZ, hZ1, hZ2⟩ := lw_arr_boolean (ok wa_boolean)
  obtain ⟨aC, hC1, hC2⟩ := lw_arr_char (ok wa_char)
  obtain ⟨aL, hL1, hL2⟩ := lw_arr_obj (hts _ wo_arrayOver)
  refine ⟨(fun k => match k with | 0 => c0 | 1 => c1 | 2 => c2 | 3 => c3 | 4 => c4 | 5 => c5 | 6 => c6 | 7 => c7 | _ => c8, fun k => match k with | 0 => i0 | 1 => i1 | 2 => i2 | 3 => i3 | 4 => i4 | 5 => i5 | 6 => i6 | 7 => i7 | _ => i8), fun k => match k with | 0 => aI | 1 => aZ | 2 => aC | _ => aL, ?_, ?_⟩
  · intro k q hq
    match k, hq with
    | 0, hq => cases hq; exact k0
    | 1, hq => cases hq; exact k1
    | 2, hq => cases hq; exact k2
    | 3, hq => cases hq; exact k3
    | 4, hq => cases hq; exact k4
    | 5, hq => cases hq; exact k5
    | 6, hq => cases hq; exact k6
    | 7, hq => cases hq; exact k7
    | 8, hq => cases hq; exact k8
    | k + 9, hq => simp [vwCl] at hq
  · intro k q hq
    match k, hq with
    | 0, hq => cases hq; exact ⟨hI1, hI2⟩
    | 1, hq => cases hq; exact ⟨hZ1, hZ2⟩
    | 2, hq => cases hq; exact ⟨hC1, hC2⟩
    | 3, hq => cases hq; exact ⟨hL1, hL2⟩
    | k + 4, hq => simp [m_tc] at hq
set_option maxHeartbeats 4000000 in
set_option maxRecDepth 100000 in
/-- from the entry to the loop -/
theorem start_of {N : Nat} {Inv : Nat → XT → XT → Prop} (hst : m_Step N Inv) (hI0 : Inv 0 m_xc0 m_y0) {p : Program} {e : Env} {s : State} {m : MethodId} {below : List Frame} {meth : Method} {c : Code} (l : Launch) {b L : Nat} {xs : Nat → Int32} (hL : L ≤ 2048) (C0 : lw_At p s m meth c b L xs) : W p l e room_1 s m #[Value.ref b] below meth c s.heap [] 0 0 (lw_Z below #[Value.ref b] s) (entryFrame m ([Value.ref b] : List Value).toArray 8) := by
  obtain ⟨hx, hb, hr, hml, hown, hts, hX, hbl, hlocks, hgv⟩ := id C0
  have ok : ∀ {w}, w ∈ m_tbl → w.before #[Value.ref b] s = true := fun h => hts _ (m_tbl_lw h)
  have S0 : CallFix p m c code 8 s #[Value.ref b] lw_tbl RL := ⟨hx, hb, hml, hown, hts⟩
  obtain ⟨D, cy, hK⟩ := lw_known hts
  have hZ := lw_ZI hts hgv
  have hA : ∀ q : Nat, s.heap.size ≤ q → lw_A0 s q := fun _ h => h
  have hS : va_S (lw_A0 s) s.heap s.heap [] := va_S.rf
  have hP : va_P D vwCl [] s.heap := fun k q h => by simp at h
  have hD : va_D (lw_A0 s) [] := ⟨fun i j p q h => by simp at h, fun k q h => by simp at h⟩
  have hl := lv_entry ([.ref b]) (n := 8) (Nat.le_of_ble_eq_true rfl)
  rw [lg_entry_eq]
  generalize (lg_sl ([.ref b]) ++ List.replicate (8 - (lg_sl ([.ref b])).length) Slot.unset).toArray = ls at hl ⊢
  have hl : lv_has ls 8 [(0, .ref b)] := hl
  refine va_new hx hb (ci := 7) (C := RX7) (T := TX7) (N := 5) hts (fun w h => m_tbl_lw (inX7 w h)) tyX7 tyX7_ok hown (ok wk_L_7) (ok wb_X7) (ok wn_X7) hK hP hD hS hA rfl (fs := [.null, .null, .null, .null, .int 0]) (by decide) (Nat.le_of_ble_eq_true rfl) (Nat.le_of_ble_eq_true rfl) dL_law_0 (fun q1 H hP hD hS => ?_)
  refine lv_dup hx hb dL_law_3 rfl ?_
  refine lw_callI S0 hK hZ (wr := []) (i_X7_init l D cy q1 H.size) rfl wl_L_9 wi_X7_init wn_X7 wc_X7_init ⟨rfl, rfl⟩ hv_X7_init.2 ⟨Nat.le_of_ble_eq_true rfl, Nat.le_of_ble_eq_true rfl⟩ hP hD hS hl.1 (Nat.le_of_ble_eq_true rfl) dL_law_4 ⟨Nat.le_of_ble_eq_true rfl, Nat.le_of_ble_eq_true rfl⟩ (fun u H locs hP hD hS => ?_)
  have hP : va_P D vwCl (m_GW cy q1 u) H := hP
  have hD : va_D (lw_A0 s) (m_GW cy q1 u) := hD
  refine lv_astore_n (lv' := [(1, .ref q1), (0, .ref b)]) hx hb dL_law_7 rfl hl (by decide) rfl (fun ls hl => ?_)
  refine va_new hx hb (ci := 8) (C := RX8) (T := TX8) (N := 13) hts (fun w h => m_tbl_lw (inX8 w h)) tyX8 tyX8_ok hown (ok wk_L_10) (ok wb_X8) (ok wn_X8) hK hP hD hS hA rfl (fs := [.null, .null, .null, .int 0, .null, .int 0, .null, .int 0, .int 0, .int 0, .int 0, .int 0, .int 0]) (by decide) (Nat.le_of_ble_eq_true rfl) (Nat.le_of_ble_eq_true rfl) dL_law_8 (fun q2 H hP hD hS => ?_)
  refine lv_dup hx hb dL_law_11 rfl ?_
  refine lw_callI S0 hK hZ (wr := m_GW cy q1 u) (i_X8_init l D cy q2 H.size) rfl wl_L_12 wi_X8_init wn_X8 wc_X8_init ⟨rfl, rfl⟩ hv_X8_init.2 ⟨Nat.le_of_ble_eq_true rfl, Nat.le_of_ble_eq_true rfl⟩ hP hD hS hl.1 (Nat.le_of_ble_eq_true rfl) dL_law_12 ⟨Nat.le_of_ble_eq_true rfl, Nat.le_of_ble_eq_true rfl⟩ (fun u2 H locs hP hD hS => ?_)
  refine lv_astore_n (lv' := [(2, .ref q2), (1, .ref q1), (0, .ref b)]) hx hb dL_law_15 rfl hl (by decide) rfl (fun ls hl => ?_)
  refine lv_iconst (v := 0) hx hb dL_law_16 (by decide) ?_
  refine lv_istore_n (lv' := [(3, .int 0), (2, .ref q2), (1, .ref q1), (0, .ref b)]) hx hb dL_law_17 rfl hl (by decide) rfl (fun ls hl => ?_)
  have hP1 : va_P D vwCl (m_GW cy q1 u) H := fun k q hq => hP k q (by rw [List.getElem?_append_left (List.getElem?_eq_some_iff.mp hq).1]; exact hq)
  have hP2 : va_P D vwCl (m_WM (fun j => if j = 0 then q2 else u2 j) cy m_y0) H := fun k q hq => hP ((m_GW cy q1 u).length + k) q (by rw [List.getElem?_append_right (Nat.le_add_right _ _), Nat.add_sub_cancel_left]; exact hq)
  have hD1 : va_D (lw_A0 s) (m_GW cy q1 u) := ⟨fun i j p q hp hq h => hD.1 i j p q (by rw [List.getElem?_append_left (List.getElem?_eq_some_iff.mp hp).1]; exact hp) (by rw [List.getElem?_append_left (List.getElem?_eq_some_iff.mp hq).1]; exact hq) h, fun k q hq => hD.2 k q (by rw [List.getElem?_append_left (List.getElem?_eq_some_iff.mp hq).1]; exact hq)⟩
  have at2 : ∀ (k : Nat) (q : Nat × va_E), (m_WM (fun j => if j = 0 then q2 else u2 j) cy m_y0)[k]? = some q → (m_GW cy q1 u ++ m_WM (fun j => if j = 0 then q2 else u2 j) cy m_y0)[(m_GW cy q1 u).length + k]? = some q := fun k q hq => by rw [List.getElem?_append_right (Nat.le_add_right _ _), Nat.add_sub_cancel_left]; exact hq
  have hD2 : va_D (lw_A0 s) (m_WM (fun j => if j = 0 then q2 else u2 j) cy m_y0) := ⟨fun i j p q hp hq h => by have := hD.1 _ _ p q (at2 i p hp) (at2 j q hq) h; omega, fun k q hq => hD.2 _ q (at2 k q hq)⟩
  have hAC : ∀ q, m_AC (m_ad q1 u) q → s.heap.size ≤ q := fun q h => m_GW_A hD1 h
  have hZC : m_ZC (m_ad q1 u) s := ⟨lw_LEAST hts hgv (fun q h h2 => absurd (hAC q h2) (Nat.not_le.mpr h)), lw_GREATEST hts hgv (fun q h h2 => absurd (hAC q h2) (Nat.not_le.mpr h))⟩
  have hdis : ∀ q, m_AC (m_ad q1 u) q → ¬ m_AM (fun j => if j = 0 then q2 else u2 j) q := by
    rintro q ⟨i, hi, rfl⟩ ⟨j, hj, h⟩
    have e1 := (m_posA cy q1 u i hi).choose_spec
    have h1 := (List.getElem?_eq_some_iff.mp e1).1
    have := hD.1 _ _ _ _ (by rw [List.getElem?_append_left h1]; exact e1) (at2 j _ (m_wl_at hj)) h
    omega
  refine W.widen (k := 600000) (n := 7302250) (Nat.le_of_ble_eq_true rfl) (Nat.le_of_ble_eq_true rfl) ?_
  refine W.base ?_
  exact law_loop l hL (a := m_ad q1 u) (a2 := fun j => if j = 0 then q2 else u2 j) ⟨C0, hK, hZC, hAC, fun q h => m_WM_A hD2 h, hdis, m_GW_inj hD1, m_WM_inj hD2⟩ hst (L + 4) 0 (by omega) (by omega) 0 rfl m_xc0 m_y0 hI0 s.drawn (Drawn.sameBut.refl s.drawn lw_cs) H locs ls (m_GW_P hP1) hP2 hS (lv_sub hl [3, 2, 1, 0] rfl)
