-- one turn of the law, and all its turns
section QM1
variable {N T n p c : Nat} {X Y W X2 : XT} {y y2 : Nat → Int32} {xs : Nat → Int32} {L : Nat} {k0 : Int32 → XT → Option (Int32 × XT)} {v9 v10 v11 : Int32}
theorem qm_bl {α : Type} (r : Int64) (X : XT) (k : Int64 → XT → Option α) : m_bl (some (r, X)) k = k r X := rfl
theorem qm_cmp (v : Int64) : lg_cmp v v = 0 := by
  unfold lg_cmp
  simp
/-- what the class's rows alone say -/
theorem qz_I_cp (hf : ∀ i : Nat, i < 131 → X2 i = X i) (h : qz_I T X Y) : qz_I T X2 Y := by
  obtain ⟨h1, h2, ⟨o, hh, h3⟩, ⟨l, h4⟩⟩ := h
  refine ⟨qz_S_cp h1 (qz_cp_eq (fun i hi => hf i (by omega))) (fun _ _ => rfl), ?_, ⟨o, hh, ?_⟩, ⟨l, ?_⟩⟩
  · rcases h2 with ⟨q1, q2⟩ | ⟨q1, q2, q3⟩
    · exact Or.inl ⟨by rw [hf 126 (by omega)]; exact q1, q2⟩
    · exact Or.inr ⟨by rw [hf 126 (by omega)]; exact q1, q2, qz_S_cp q3 (qz_cp_eq (fun i hi => hf (21 * 1 + i) (by omega))) (fun _ _ => rfl)⟩
  · obtain ⟨a1, a2, a3, a4, a5, a6⟩ := h3
    exact ⟨a1, a2, by rw [hf 127 (by omega)]; exact a3, by rw [hf 127 (by omega)]; exact a4, a5, fun i hi => qz_S_cp (a6 i hi) (qz_cp_eq (fun j hj => hf (21 * (2 + (o + i) % 4) + j) (by omega))) (fun _ _ => rfl)⟩
  · obtain ⟨a1, a2, a3, a4⟩ := h4
    exact ⟨a1, by rw [hf 129 (by omega)]; exact a2, a3, fun q hq => by rw [hf 130 (by omega)]; exact a4 q hq⟩
/-- the law's rows beside a row of the model that agrees -/
theorem qL_y (hy : ∀ a : Nat, a < 1816 → y2 a = y a) (hL : qL X y n p) : qL X y2 n p := by
  obtain ⟨hn, hp, ⟨q0, q1, q2, q3, q4, q5, q6, y6, q7, y7, q8, q9, q11, q12, q13, q14, q15, q16, z3, z5⟩, ht, hc, hg⟩ := hL
  refine ⟨hn, hp, ⟨?_, ?_, ?_, ?_, ?_, ?_, q6, ?_, q7, ?_, ?_, ?_, ?_, ?_, ?_, ?_, ?_, ?_, ?_, ?_⟩, fun j hj h9 => ?_, fun k hk => ?_, fun j hj => ?_⟩
  · rw [hy 0 (by omega)]; exact q0
  · rw [hy 1 (by omega)]; exact q1
  · rw [hy 2 (by omega)]; exact q2
  · rw [hy 3 (by omega)]; exact q3
  · rw [hy 4 (by omega)]; exact q4
  · rw [hy 5 (by omega)]; exact q5
  · rw [hy 6 (by omega)]; exact y6
  · rw [hy 7 (by omega)]; exact y7
  · rw [hy 8 (by omega)]; exact q8
  · rw [hy 9 (by omega)]; exact q9
  · rw [hy 10 (by omega)]; exact q11
  · rw [hy 11 (by omega)]; exact q12
  · rw [hy 12 (by omega)]; exact q13
  · rw [hy 13 (by omega)]; exact q14
  · rw [hy 14 (by omega)]; exact q15
  · rw [hy 15 (by omega)]; exact q16
  · rw [hy 3 (by omega)]; exact z3
  · rw [hy 5 (by omega)]; exact z5
  · rw [hy (1216 + 4 * j + 3) (by omega)]
    rw [hy 9 (by omega)] at h9
    exact ht j hj h9
  · exact qc_c (fun w hw => hy _ (by omega)) (hc k hk)
  · exact qg_c (fun w hw => hy _ (by omega)) (hg j hj)
/-- a part of a turn comes to the turn's end, with all as it should be -/
def qm_to (xs : Nat → Int32) (L N : Nat) (k0 : Int32 → XT → Option (Int32 × XT)) (v9 : Int32) (T n : Nat) (o : Option (Int32 × XT)) : Prop := ∃ (W Y2 : XT) (n3 p3 : Nat), o = f_L_law_508 xs L N k0 v9 W ∧ qz_I (T + 80) W Y2 ∧ qL W (Y2 1) n3 p3 ∧ n3 ≤ n + 1
theorem qm_456 {kind a b r : Int32} {W3 : XT} {n3 p3 : Nat} (hN : 200 ≤ N) (hI : qz_I (T + 80) W Y) (d1 : f_L_due N kind a b W = some (r, W3)) (d2 : qlo W W3) (d3 : qL W3 (Y 1) n3 p3) (d4 : n3 ≤ n + 1) : qm_to xs L N k0 v9 T n (f_L_law_456 xs L N k0 v9 v11 kind a b r W) := by
  have hI3 : qz_I (T + 80) W3 Y := qz_I_cp d2 hI
  refine ⟨W3, Y, n3, p3, ?_, hI3, d3, d4⟩
  obtain ⟨⟨n2, p2, f, e, t, hR, _⟩, _⟩ := hI3
  obtain ⟨en, ep⟩ := qL_np hR d3
  subst en
  subst ep
  unfold f_L_law_456
  rw [d1, qz_bi, if_pos rfl]
  unfold f_L_law_482
  rw [qz_nm, qi_isSo hR d3 hN, qz_bi, if_neg qz_10]
theorem qm_355 {kind a b : Int32} (hk : ∀ (T : Nat) (X Y : XT), T < 2 ^ 26 → qz_I T X Y → qL X (Y 1) n p → qt_ok N T kind a b X Y n p) (hN : 6000 ≤ N) (hT : T + 40 < 2 ^ 26) (hI : qz_I T X Y) (hL : qL X (Y 1) n p) : qm_to xs L N k0 v9 T n (f_L_law_355 xs L N k0 v9 v10 v11 kind a b X) := by
  have hN2 : 200 ≤ N := by omega
  obtain ⟨r, X1, Y1, c1, c2, c3, c4, c5⟩ := hk T X Y (by omega) hI hL
  rcases c4 with ⟨r0, r5, rfl, rfl⟩ | ⟨hr, h, hh⟩
  · obtain ⟨v, t1, _⟩ := qd_same hI hI (fun _ _ => rfl) hN2
    obtain ⟨W3, n3, p3, d1, d2, d3, d4⟩ := c5 _ (fun _ _ => rfl)
    unfold f_L_law_355
    rw [t1, qm_bl, c1, qz_bi, if_neg (fun z => by
      have z1 := Int32.le_iff_toInt_le.mp z
      have z2 := Int32.lt_iff_toInt_lt.mp r0
      omega), if_neg r5]
    unfold f_L_law_392
    rw [if_neg qz_10, t1, qm_bl, qm_cmp, qz_nm, if_pos rfl]
    exact qm_456 hN2 (qz_I_le (by omega) hI) d1 d2 d3 d4
  · have e0 : f_L_law_355 xs L N k0 v9 v10 v11 kind a b X = m_bl (f_L_told N X) fun v Xa => m_bi (f_L_call N kind a b Xa) fun r2 Xb => f_L_law_412 xs L N k0 v9 v10 v11 kind a b v r2 Xb := by
      obtain ⟨v, t1, _⟩ := qd_same hI hI (fun _ _ => rfl) hN2
      unfold f_L_law_355
      rw [t1, qm_bl, qm_bl, c1, qz_bi, qz_bi]
      have e1 : f_L_law_392 xs L N k0 v9 v10 v11 kind a b v r 0 X1 = f_L_law_412 xs L N k0 v9 v10 v11 kind a b v r X1 := by
        unfold f_L_law_392
        rw [if_pos rfl]
      rw [e1]
      by_cases q : 0 ≤ r
      · rw [if_pos q]
      · rw [if_neg q]
        rcases hr with hr | hr
        · exfalso
          have z1 : ¬ (0 : Int32).toInt ≤ r.toInt := fun z => q (Int32.le_iff_toInt_le.mpr z)
          have z2 : ¬ r.toInt < (0 : Int32).toInt := fun z => hr (Int32.lt_iff_toInt_lt.mpr z)
          omega
        · rw [if_pos hr]
    rw [e0]
    obtain ⟨t1, t2, t3, t4⟩ := hh
    obtain ⟨ru, X2, Y2, u1, u2, u3, u4, u5⟩ := qz_undoI c2 hN t1 t2 t3
    have hy : ∀ a : Nat, a < 1816 → Y2 1 a = Y 1 a := fun a ha => (u4 a ha).trans (t4 a ha)
    obtain ⟨v, s1, s2⟩ := qd_same (qz_I_le (show T ≤ T + 40 by omega) hI) u3 hy hN2
    rw [s1, qm_bl, c1, qz_bi]
    unfold f_L_law_412
    rw [qz_nm, qz_nm]
    by_cases q : (v10 >>> ((24 : Int32) &&& 31)) &&& 3 = 0
    · rw [if_pos q, u2, qz_bi, if_neg (show ¬ nI ru < 0 from nI_pos (by omega)), s2, qm_bl, qm_cmp, qz_nm, if_pos rfl]
      have hL2 : qL X2 (Y2 1) n p := qL_y hy (qL_fz (fun i hi => (u5 i hi).trans (c3 i hi)) hL)
      obtain ⟨r2, X3, Y3, g1, g2, g3, _, g5⟩ := hk (T + 40) X2 Y2 hT u3 hL2
      have hf3 : qz_fz X X3 := fun i hi => (g3 i hi).trans ((u5 i hi).trans (c3 i hi))
      obtain ⟨W3, n3, p3, d1, d2, d3, d4⟩ := c5 X3 hf3
      obtain ⟨W4, n4, p4, b1, b2, b3, b4⟩ := g5 X3 g3
      have er : r2 = r := by
        rw [d1] at b1
        exact (congrArg Prod.fst (Option.some.inj b1)).symm
      subst er
      rw [g1, qz_bi, if_pos rfl]
      exact qm_456 hN2 g2 b1 b2 b3 b4
    · rw [if_neg q]
      obtain ⟨W3, n3, p3, d1, d2, d3, d4⟩ := c5 X1 c3
      exact qm_456 hN2 (qz_I_le (by omega) c2) d1 d2 d3 d4
theorem qm_1 (r : Nat) : (1 : Int32) + nI r = nI (1 + r) := nI_add 1 r
/-- submits -/
theorem qm_268s {uu : Nat} (hu : uu ≤ 1) (hc : c < 12) (hn : n ≤ 45) (hN : 6000 ≤ N) (hT : T + 40 < 2 ^ 26) (hI : qz_I T X Y) (hL : qL X (Y 1) n p) : qm_to xs L N k0 v9 T n (f_L_law_268 xs L N k0 v9 v10 v11 (nI uu) (nI c) X) := by
  obtain ⟨r, hr, l1⟩ := ql_low (N := N) (X := X) (m := 8) (v11 >>> ((4 : Int32) &&& 31)) (by omega) (by omega)
  have l1' : f_L_low N (v11 >>> ((4 : Int32) &&& 31)) 8 X = some (nI r, X) := l1
  unfold f_L_law_268
  rw [if_neg (show ¬ (2 : Int32) ≤ nI uu from nI_ge (a := uu) (b := 2) (by omega) (by omega)), qz_nm, l1', qz_bi, qm_1, qz_nm]
  exact qm_355 (fun T2 X2 Y2 _ h1 h2 => qt_submit hu hN h1 h2 hn hc ⟨by omega, by omega⟩) hN hT hI hL
/-- calls that take any second number -/
theorem qm_268a {kind a : Int32} (h2 : 2 ≤ kind) (hk : ∀ (b : Int32) (T : Nat) (X Y : XT), T < 2 ^ 26 → qz_I T X Y → qL X (Y 1) n p → qt_ok N T kind a b X Y n p) (hN : 6000 ≤ N) (hT : T + 40 < 2 ^ 26) (hI : qz_I T X Y) (hL : qL X (Y 1) n p) : qm_to xs L N k0 v9 T n (f_L_law_268 xs L N k0 v9 v10 v11 kind a X) := by
  unfold f_L_law_268
  rw [if_pos h2]
  by_cases q0 : a = 0
  · obtain ⟨r, hr, l1⟩ := ql_low (N := N) (X := X) (m := 21) (v11 >>> ((4 : Int32) &&& 31)) (by omega) (by omega)
    have l1' : f_L_low N (v11 >>> ((4 : Int32) &&& 31)) 21 X = some (nI r, X) := l1
    rw [if_pos q0, qz_nm, l1', qz_bi]
    exact qm_355 (hk _) hN hT hI hL
  · rw [if_neg q0]
    by_cases q1 : a = 1
    · obtain ⟨r, hr, l1⟩ := ql_low (N := N) (X := X) (m := 40) (v11 >>> ((4 : Int32) &&& 31)) (by omega) (by omega)
      have l1' : f_L_low N (v11 >>> ((4 : Int32) &&& 31)) 40 X = some (nI r, X) := l1
      rw [if_pos q1, qz_nm, l1', qz_bi, qz_nm]
      exact qm_355 (hk _) hN hT hI hL
    · rw [if_neg q1]
      by_cases q2 : a = 2
      · obtain ⟨r, hr, l1⟩ := ql_low (N := N) (X := X) (m := 20) (v11 >>> ((4 : Int32) &&& 31)) (by omega) (by omega)
        have l1' : f_L_low N (v11 >>> ((4 : Int32) &&& 31)) 20 X = some (nI r, X) := l1
        rw [if_pos q2, qz_nm, l1', qz_bi, qz_nm]
        exact qm_355 (hk _) hN hT hI hL
      · obtain ⟨r, hr, l1⟩ := ql_low (N := N) (X := X) (m := 2) (v11 >>> ((4 : Int32) &&& 31)) (by omega) (by omega)
        have l1' : f_L_low N (v11 >>> ((4 : Int32) &&& 31)) 2 X = some (nI r, X) := l1
        rw [if_neg q2, qz_nm, l1', qz_bi]
        exact qm_355 (hk _) hN hT hI hL
/-- settings -/
theorem qm_268t {j : Nat} (hj : j < 4) (hN : 6000 ≤ N) (hT : T + 40 < 2 ^ 26) (hI : qz_I T X Y) (hL : qL X (Y 1) n p) : qm_to xs L N k0 v9 T n (f_L_law_268 xs L N k0 v9 v10 v11 5 (nI j) X) := by
  unfold f_L_law_268
  rw [if_pos (show (2 : Int32) ≤ 5 by decide)]
  have hcs : j = 0 ∨ j = 1 ∨ j = 2 ∨ j = 3 := by omega
  rcases hcs with rfl | rfl | rfl | rfl
  · obtain ⟨r, hr, l1⟩ := ql_low (N := N) (X := X) (m := 21) (v11 >>> ((4 : Int32) &&& 31)) (by omega) (by omega)
    have l1' : f_L_low N (v11 >>> ((4 : Int32) &&& 31)) 21 X = some (nI r, X) := l1
    rw [if_pos (show nI 0 = 0 from rfl), qz_nm, l1', qz_bi]
    exact qm_355 (fun T2 X2 Y2 _ h1 h2 => qt_set hj (show ¬ nI r < 0 from nI_pos (by omega)) (show ¬ (20 : Int32) < nI r from nI_nlt (a := 20) (b := r) (by omega) (by omega)) (nI_pos (by omega)) hN h1 h2) hN hT hI hL
  · obtain ⟨r, hr, l1⟩ := ql_low (N := N) (X := X) (m := 40) (v11 >>> ((4 : Int32) &&& 31)) (by omega) (by omega)
    have l1' : f_L_low N (v11 >>> ((4 : Int32) &&& 31)) 40 X = some (nI r, X) := l1
    rw [if_neg (show ¬ nI 1 = 0 by decide), if_pos (show nI 1 = 1 from rfl), qz_nm, l1', qz_bi, qm_1, qz_nm]
    exact qm_355 (fun T2 X2 Y2 _ h1 h2 => qt_set hj (show ¬ nI (1 + r) < 1 from nI_nlt (a := 1 + r) (b := 1) (by omega) (by omega)) (show ¬ (40 : Int32) < nI (1 + r) from nI_nlt (a := 40) (b := 1 + r) (by omega) (by omega)) (nI_pos (by omega)) hN h1 h2) hN hT hI hL
  · obtain ⟨r, hr, l1⟩ := ql_low (N := N) (X := X) (m := 20) (v11 >>> ((4 : Int32) &&& 31)) (by omega) (by omega)
    have l1' : f_L_low N (v11 >>> ((4 : Int32) &&& 31)) 20 X = some (nI r, X) := l1
    rw [if_neg (show ¬ nI 2 = 0 by decide), if_neg (show ¬ nI 2 = 1 by decide), if_pos (show nI 2 = 2 from rfl), qz_nm, l1', qz_bi, qm_1, qz_nm]
    exact qm_355 (fun T2 X2 Y2 _ h1 h2 => qt_set hj (show ¬ nI (1 + r) < 1 from nI_nlt (a := 1 + r) (b := 1) (by omega) (by omega)) (show ¬ (20 : Int32) < nI (1 + r) from nI_nlt (a := 20) (b := 1 + r) (by omega) (by omega)) (nI_pos (by omega)) hN h1 h2) hN hT hI hL
  · obtain ⟨r, hr, l1⟩ := ql_low (N := N) (X := X) (m := 2) (v11 >>> ((4 : Int32) &&& 31)) (by omega) (by omega)
    have l1' : f_L_low N (v11 >>> ((4 : Int32) &&& 31)) 2 X = some (nI r, X) := l1
    rw [if_neg (show ¬ nI 3 = 0 by decide), if_neg (show ¬ nI 3 = 1 by decide), if_neg (show ¬ nI 3 = 2 by decide), qz_nm, l1', qz_bi]
    exact qm_355 (fun T2 X2 Y2 _ h1 h2 => qt_set hj (show ¬ nI r < 0 from nI_pos (by omega)) (show ¬ (1 : Int32) < nI r from nI_nlt (a := 1) (b := r) (by omega) (by omega)) (nI_pos (by omega)) hN h1 h2) hN hT hI hL
theorem qm_209 {kd : Nat} (hkd : kd < 7) (hn : n ≤ 45) (hN : 6000 ≤ N) (hT : T + 40 < 2 ^ 26) (hI : qz_I T X Y) (hL : qL X (Y 1) n p) : qm_to xs L N k0 v9 T n (f_L_law_209 xs L N k0 v9 v10 v11 (nI kd) X) := by
  have l12 : ∃ c : Nat, c < 12 ∧ f_L_low N v11 12 X = some (nI c, X) := ql_low (N := N) (X := X) (m := 12) v11 (by omega) (by omega)
  have l4 : ∃ c : Nat, c < 4 ∧ f_L_low N v11 4 X = some (nI c, X) := ql_low (N := N) (X := X) (m := 4) v11 (by omega) (by omega)
  have l40 : ∃ c : Nat, c < 40 ∧ f_L_low N v11 40 X = some (nI c, X) := ql_low (N := N) (X := X) (m := 40) v11 (by omega) (by omega)
  have l6 : ∃ c : Nat, c < 6 ∧ f_L_low N (v11 >>> ((20 : Int32) &&& 31)) 6 X = some (nI c, X) := ql_low (N := N) (X := X) (m := 6) (v11 >>> ((20 : Int32) &&& 31)) (by omega) (by omega)
  obtain ⟨c12, b12, e12⟩ := l12
  obtain ⟨c4, b4, e4⟩ := l4
  obtain ⟨c40, b40, e40⟩ := l40
  obtain ⟨c6, b6, e6⟩ := l6
  unfold f_L_law_209
  by_cases k2 : kd = 2
  · subst k2
    rw [if_pos (show nI 2 = 2 from rfl), qz_nm, e6, qz_bi]
    by_cases q : nI c6 = 0
    · rw [if_pos q, e40, qz_bi, qm_1, qz_nm]
      exact qm_268a (show (2 : Int32) ≤ 2 by decide) (fun b T2 X2 Y2 g0 g1 g2 => qt_tick ⟨by omega, by omega⟩ b hN g0 g1 g2) hN hT hI hL
    · rw [if_neg q, e4, qz_bi, qm_1, qz_nm]
      exact qm_268a (show (2 : Int32) ≤ 2 by decide) (fun b T2 X2 Y2 g0 g1 g2 => qt_tick ⟨by omega, by omega⟩ b hN g0 g1 g2) hN hT hI hL
  · rw [if_neg (show ¬ nI kd = 2 from fun z => k2 ((nI_eq (a := kd) (b := 2) (by omega) (by omega)).mp z))]
    by_cases k5 : kd = 5
    · subst k5
      rw [if_pos (show nI 5 = 5 from rfl), e4, qz_bi]
      exact qm_268t b4 hN hT hI hL
    · rw [if_neg (show ¬ nI kd = 5 from fun z => k5 ((nI_eq (a := kd) (b := 5) (by omega) (by omega)).mp z)), e12, qz_bi]
      by_cases k1 : kd ≤ 1
      · exact qm_268s k1 b12 hn hN hT hI hL
      · have hcs : kd = 3 ∨ kd = 4 ∨ kd = 6 := by omega
        rcases hcs with rfl | rfl | rfl
        · exact qm_268a (show (2 : Int32) ≤ 3 by decide) (fun b T2 X2 Y2 g0 g1 g2 => qt_fail b hN g1 g2 b12) hN hT hI hL
        · exact qm_268a (show (2 : Int32) ≤ 4 by decide) (fun b T2 X2 Y2 g0 g1 g2 => qt_withdraw b hN g1 g2 b12) hN hT hI hL
        · exact qm_268a (show (2 : Int32) ≤ 6 by decide) (fun b T2 X2 Y2 g0 g1 g2 => qt_crash _ b hN g1 g2) hN hT hI hL
theorem qm_loop (xs : Nat → Int32) (L N : Nat) (hN : 6000 ≤ N) : ∀ (d j fuel T n p : Nat) (X Y : XT), j + d = 46 → d < fuel → T ≤ 80 * j → n ≤ j → qz_I T X Y → qL X (Y 1) n p → ∃ X0 : XT, f_L_law_85 xs L N fuel (nI j) X = some (1, X0) := by
  intro d
  induction d with
  | zero =>
    intro j fuel T n p X Y hj hF hT hn hI hL
    obtain ⟨F, rfl⟩ : ∃ F : Nat, fuel = F + 1 := ⟨fuel - 1, by omega⟩
    refine ⟨X, ?_⟩
    rw [f_L_law_85, if_pos (show (46 : Int32) ≤ nI j from nI_le (a := 46) (b := j) (by omega) (by omega))]
  | succ d ih =>
    intro j fuel T n p X Y hj hF hT hn hI hL
    obtain ⟨F, rfl⟩ : ∃ F : Nat, fuel = F + 1 := ⟨fuel - 1, by omega⟩
    rw [f_L_law_85, if_neg (show ¬ (46 : Int32) ≤ nI j from nI_ge (a := j) (b := 46) (by omega) (by omega))]
    have e1 : (2 : Int32) * nI j = nI (2 * j) := pk_mul 2 j
    rw [e1, qz_nm, qz_gd (show ¬ nI (2 * j) < 0 from nI_pos (by omega)), qz_nm, qz_nm, nI_1, qz_nm, qz_gd (show ¬ nI (2 * j + 1) < 0 from nI_pos (by omega)), qz_nm]
    obtain ⟨r, hr, l1⟩ := ql_low (N := N) (X := X) (m := 24) (lw_cell xs L (nI (2 * j))) (by omega) (by omega)
    have l1' : f_L_low N (lw_cell xs L (nI (2 * j))) 24 X = some (nI r, X) := l1
    rw [l1', qz_bi]
    have H : ∀ kd : Nat, kd < 7 → ∃ X0 : XT, f_L_law_209 xs L N (f_L_law_85 xs L N F) (nI j) (lw_cell xs L (nI (2 * j))) (lw_cell xs L (nI (2 * j + 1))) (nI kd) X = some (1, X0) := fun kd hkd => by
      obtain ⟨W, Y2, n3, p3, h1, h2, h3, h4⟩ := qm_209 (xs := xs) (L := L) (k0 := f_L_law_85 xs L N F) (v9 := nI j) (v10 := lw_cell xs L (nI (2 * j))) (v11 := lw_cell xs L (nI (2 * j + 1))) hkd (show n ≤ 45 by omega) hN (show T + 40 < 2 ^ 26 by omega) hI hL
      rw [h1]
      unfold f_L_law_508
      rw [nI_1, qz_nm]
      exact ih (j + 1) F (T + 80) n3 p3 W Y2 (by omega) (by omega) (by omega) (by omega) h2 h3
    by_cases q1 : (11 : Int32) ≤ nI r
    · rw [if_pos q1]
      by_cases q2 : (13 : Int32) ≤ nI r
      · rw [if_pos q2]
        by_cases q3 : (18 : Int32) ≤ nI r
        · rw [if_pos q3]
          by_cases q4 : nI r = 18
          · rw [if_pos q4]
            exact H 3 (by omega)
          · rw [if_neg q4]
            by_cases q5 : nI r = 19
            · rw [if_pos q5]
              exact H 4 (by omega)
            · rw [if_neg q5]
              by_cases q6 : (22 : Int32) ≤ nI r
              · rw [if_pos q6]
                by_cases q7 : nI r = 22
                · rw [if_pos q7, qz_nm]
                  by_cases q8 : nI j - nI j / 3 * 3 = 0
                  · rw [if_pos q8]
                    exact H 6 (by omega)
                  · rw [if_neg q8]
                    exact H 0 (by omega)
                · rw [if_neg q7]
                  exact H 0 (by omega)
              · rw [if_neg q6]
                exact H 5 (by omega)
        · rw [if_neg q3]
          exact H 2 (by omega)
      · rw [if_neg q2]
        exact H 1 (by omega)
    · rw [if_neg q1]
      exact H 0 (by omega)
/-- the law's start -/
theorem qm_I0 : qz_I 0 m_xq m_y0 := qz_I_cp (fun i hi => by
  unfold m_xq
  rw [qz_un _ _ (by omega), qz_un _ _ (by omega), qz_un _ _ (by omega), qz_un _ _ (by omega), qz_un _ _ (by omega), qz_un _ _ (by omega), qz_un _ _ (by omega)]) qz_Inv0
theorem qm_L0 : qL m_xq (m_y0 1) 0 0 := by
  refine ⟨by omega, by omega, ⟨rfl, rfl, rfl, rfl, rfl, rfl, rfl, rfl, rfl, rfl, rfl, rfl, rfl, rfl, rfl, rfl, rfl, rfl, ?_, ?_⟩, fun j hj => absurd hj (Nat.not_lt_zero _), fun j hj => absurd hj (Nat.not_lt_zero _), fun j hj => absurd hj (Nat.not_lt_zero _)⟩
  · exact (by decide : ¬ (16 : Int32) < 0)
  · exact (by decide : ¬ (1 : Int32) < 0)
theorem qm_law (xs : Nat → Int32) (L : Nat) : ∃ X0 : XT, f_L_law_85 xs L 100000 100000 0 m_xq = some (1, X0) := qm_loop xs L 100000 (by omega) 46 0 100000 0 0 0 m_xq m_y0 rfl (by omega) (by omega) (by omega) qm_I0 qm_L0
end QM1
