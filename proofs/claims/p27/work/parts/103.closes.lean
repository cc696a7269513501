-- a group closes: the law's closes beside the model's close
section QL3
variable {N n p g k j j0 r w a : Nat} {X X2 Z : XT} {y y2 : Nat → Int32}
def qe_X (X : XT) (n j0 r : Nat) : XT := m_up (m_up (m_up X 131 (upd (X 131) 8 (-5))) 136 (upd (X 136) j0 (nI (2 + 8 * r)))) 132 (ql_tr X j0 2 n)
def qe_Y (y : Nat → Int32) (n j0 r : Nat) : Nat → Int32 := qz_turn (upd (upd (upd y 8 (-5)) (1216 + 4 * j0 + 0) 2) (1216 + 4 * j0 + 2) (nI r)) n (nI j0) 2
theorem qe_Yo {b : Nat} (h8 : b ≠ 8) (h : b < 16 ∨ (b < 1216 ∧ (b - 16) % 8 ≠ 3) ∨ (1216 ≤ b ∧ b ≠ 1216 + 4 * j0 + 0 ∧ b ≠ 1216 + 4 * j0 + 2)) (hn : n ≤ 46) : qe_Y y n j0 r b = y b := by
  unfold qe_Y
  rw [qz_turn_o (by omega), qz_uo (by omega), qz_uo (by omega), qz_uo h8]
theorem qe_Y8 : qe_Y y n j0 r 8 = -5 := by
  unfold qe_Y
  rw [qz_turn_o (by omega), qz_uo (by omega), qz_uo (by omega), qz_us]
theorem qe_131 : qe_X X n j0 r 131 = upd (X 131) 8 (-5) := by
  unfold qe_X
  rw [qz_un _ _ (by decide), qz_un _ _ (by decide), qz_up]
theorem qe_132 : qe_X X n j0 r 132 = ql_tr X j0 2 n := by
  unfold qe_X
  rw [qz_up]
theorem qe_136 : qe_X X n j0 r 136 = upd (X 136) j0 (nI (2 + 8 * r)) := by
  unfold qe_X
  rw [qz_un _ _ (by decide), qz_up]
theorem qe_o {i : Nat} (h1 : i ≠ 131) (h2 : i ≠ 132) (h3 : i ≠ 136) : qe_X X n j0 r i = X i := by
  unfold qe_X
  rw [qz_un _ _ h2, qz_un _ _ h3, qz_un _ _ h1]
theorem qe_L (hL : qL X y n p) (hj : j0 < p) (hr : r ≤ 3) : qL (qe_X X n j0 r) (qe_Y y n j0 r) n p := by
  obtain ⟨hn, hp, hq, ht, hc, hg⟩ := hL
  have yl : ∀ b : Nat, b < 16 → b ≠ 8 → qe_Y y n j0 r b = y b := fun b h1 h2 => qe_Yo h2 (Or.inl h1) hn
  refine ⟨hn, hp, ?_, ?_, fun k hk => ?_, fun j hj2 => ?_⟩
  · obtain ⟨q0, q1, q2, q3, q4, q5, q6, y6, q7, y7, q8, q9, q11, q12, q13, q14, q15, q16, q17, q18⟩ := hq
    rw [qe_131]
    unfold qL_q
    simp only [upd, yl, qe_Y8, Nat.reduceEqDiff, if_false, if_true, Nat.reduceLT, ne_eq, not_false_eq_true]
    exact ⟨q0, q1, q2, q3, q4, q5, q6, y6, q7, y7, trivial, q9, q11, q12, q13, q14, q15, q16, q17, q18⟩
  · intro j h1 h2
    rw [yl 9 (by omega) (by omega)] at h2
    rw [qe_131, qz_uo (by omega), qe_Yo (by omega) (by omega) hn]
    exact ht j h1 h2
  · rw [qe_132, qe_o (by decide) (by decide) (by decide), qe_o (by decide) (by decide) (by decide), qe_o (by decide) (by decide) (by decide)]
    have hc2 : qL_c X (upd (upd (upd y 8 (-5)) (1216 + 4 * j0 + 0) 2) (1216 + 4 * j0 + 2) (nI r)) n := fun k hk => qc_c (fun w hw => by rw [qz_uo (by omega), qz_uo (by omega), qz_uo (by omega)]) (hc k hk)
    exact qL_tr (v := 2) (by omega) hc2 (by omega) hk
  · rw [qe_136, qe_o (by decide) (by decide) (by decide)]
    by_cases e : j = j0
    · subst e
      rw [qz_us]
      refine ⟨2, r, by omega, by omega, hr, ?_, ?_, rfl, fun q => absurd q (by omega)⟩
      · unfold qe_Y
        rw [qz_turn_o (by omega), qz_uo (by omega), qz_us]
        rfl
      · unfold qe_Y
        rw [qz_turn_o (by omega), qz_us]
    · rw [qz_uo e]
      exact qg_c (fun w hw => qe_Yo (by omega) (by omega) hn) (hg j hj2)
/-- another wait -/
theorem qe_LW (hL : qL X y n p) (v : Int32) : qL (m_up X 131 (upd (X 131) 1 v)) (upd y 1 v) n p := by
  obtain ⟨hn, hp, hq, ht, hc, hg⟩ := hL
  refine ⟨hn, hp, ?_, ?_, fun k hk => ?_, fun j hj2 => ?_⟩
  · obtain ⟨q0, q1, q2, q3, q4, q5, q6, y6, q7, y7, q8, q9, q11, q12, q13, q14, q15, q16, q17, q18⟩ := hq
    rw [qz_up]
    unfold qL_q
    simp only [upd, Nat.reduceEqDiff, if_false, if_true]
    exact ⟨q0, trivial, q2, q3, q4, q5, q6, y6, q7, y7, q8, q9, q11, q12, q13, q14, q15, q16, q17, q18⟩
  · intro j h1 h2
    rw [qz_uo (by omega)] at h2
    rw [qz_up, qz_uo (by omega), qz_uo (by omega)]
    exact ht j h1 h2
  · rw [qz_un _ _ (by decide), qz_un _ _ (by decide), qz_un _ _ (by decide), qz_un _ _ (by decide)]
    exact qc_c (fun w hw => qz_uo (by omega)) (hc k hk)
  · rw [qz_un _ _ (by decide), qz_un _ _ (by decide)]
    exact qg_c (fun w hw => qz_uo (by omega)) (hg j hj2)
theorem qe_M (h6 : y 6 = nI n) (hn : n ≤ 46) (h8 : y 8 = nI j0) (hj : j0 < 48) (h1 : y 1 = nI w) (h2 : y 2 = nI a) (hw : w ≤ 20) (ha : a ≤ 20) (hN : 200 ≤ N) : f_X8_close N (nI r) (m_up Z 1 y) = f_X8_goOn N (m_up Z 1 (if y 5 = 1 then upd (qe_Y y n j0 r) 1 (nI (qz_w2 (qz_mem y n (nI j0)) w a)) else qe_Y y n j0 r)) := by
  have hy : ∀ b : Nat, b < 16 → b ≠ 8 → qe_Y y n j0 r b = y b := fun b g1 g2 => qe_Yo g2 (Or.inl g1) hn
  have hm : qz_mem (qe_Y y n j0 r) n (nI j0) = qz_mem y n (nI j0) := qz_sum_c n (fun k hk => by
    simp only [qz_mb]
    rw [qe_Yo (by omega) (by omega) hn, qe_Yo (by omega) (by omega) hn])
  unfold f_X8_close
  rw [qz_rd (v := 8) (w := 8) rfl (by omega), h8, qz_wr (v := 8) (w := 8) rfl (by omega), qz_setG (v := 0) (w := 0) rfl (by omega) (by omega), qz_bv, qz_setG (v := 2) (w := 2) rfl (by omega) (by omega), qz_bv, qz_turnMembers (n := n) (by rw [qz_uo (by omega), qz_uo (by omega), qz_uo (by omega)]; exact h6) (by omega) hN, qz_bi, qz_rd (v := 5) (w := 5) rfl (by omega)]
  show (if qe_Y y n j0 r 5 = 1 then (m_gd (m_in 1 1816) <| m_nm (m_up Z 1 (qe_Y y n j0 r) 1 (Int32.toNatClampNeg 1)) fun y_21 => m_bi (f_X8_members N (nI j0) (m_up Z 1 (qe_Y y n j0 r))) fun r_24 X_24 => if r_24 ≤ 1 then (f_X8_close_68 N (nI j0) (-1) y_21 X_24) else (f_X8_close_68 N (nI j0) 1 y_21 X_24)) else (m_bv (f_X8_goOn N (m_up Z 1 (qe_Y y n j0 r))) fun X_19 => some X_19)) = _
  rw [hy 5 (by omega) (by omega)]
  by_cases h5 : y 5 = 1
  · rw [if_pos h5, if_pos h5, qz_rd (v := 1) (w := 1) rfl (by omega), hy 1 (by omega) (by omega), h1, qz_learnM (n := n) (w := w) (a := a) (by rw [hy 6 (by omega) (by omega)]; exact h6) (by omega) hN (by rw [hy 1 (by omega) (by omega)]; exact h1) (by rw [hy 2 (by omega) (by omega)]; exact h2) hw ha, hm]
  · rw [if_neg h5, if_neg h5, qz_bvs]
theorem qe_F (hL : qL X y n p) (h8 : y 8 = nI j0) (hj : j0 < p) (h1 : y 1 = nI w) (h2 : y 2 = nI a) (hw : w ≤ 20) (ha : a ≤ 20) (hN : 200 ≤ N) : f_L_closes N (nI r) X = f_L_writes N (if y 5 = 1 then m_up (qe_X X n j0 r) 131 (upd (qe_X X n j0 r 131) 1 (nI (qz_w2 (qz_mem y n (nI j0)) w a))) else qe_X X n j0 r) := by
  obtain ⟨hn, hp, hq, ht, hc, hg⟩ := hL
  obtain ⟨q0, q1, q2, q3, q4, q5, q6, y6, q7, y7, q8, q9, _⟩ := hq
  obtain ⟨u, v, u1, v1, e1, e2, e3⟩ := qL_mem hc (g := j0) (by omega) n (Nat.le_refl _)
  have er : nI (u + 1000 * v) - nI (u + 1000 * v) / 1000 * 1000 = nI u := by
    rw [show (1000 : Int32) = nI 1000 from rfl, pk_rem (by omega) (by omega) (by omega)]
    congr 1
    omega
  have e8 : (2 : Int32) + 8 * nI r = nI (2 + 8 * r) := by rw [show (8 : Int32) = nI 8 from rfl, pk_mul, show (2 : Int32) = nI 2 from rfl, nI_add]
  have hX : m_up (m_up (m_up X 131 (upd (X 131) 8 (-5))) 136 (upd (X 136) j0 (nI (2 + 8 * r)))) 132 (ql_tr (m_up (m_up X 131 (upd (X 131) 8 (-5))) 136 (upd (X 136) j0 (nI (2 + 8 * r)))) j0 2 n) = qe_X X n j0 r := by
    unfold qe_X
    rw [ql_tr_c (X := X) (by rw [qz_un _ _ (by decide), qz_un _ _ (by decide)]) (by rw [qz_un _ _ (by decide), qz_un _ _ (by decide)])]
  have r1 : qe_X X n j0 r 131 1 = nI w := by rw [qe_131, qz_uo (by decide), q1]; exact h1
  have r2 : qe_X X n j0 r 131 2 = nI a := by rw [qe_131, qz_uo (by decide), q2]; exact h2
  have r5 : qe_X X n j0 r 131 5 = y 5 := by rw [qe_131, qz_uo (by decide)]; exact q5
  unfold f_L_closes
  rw [qy_q (v := 8) (j := 8) rfl (by omega), q8, h8, qy_members q6 (by omega) hN, qz_bi, e3, er, qz_nm, qy_qw (v := 8) (j := 8) rfl (by omega), qz_nm, qz_nm, e8, qy_rw rfl (show j0 < 48 by omega), qz_un X _ (show (136 : Nat) ≠ 131 by decide), qy_turns (n := n) (by rw [qz_un _ _ (by decide), qz_up, qz_uo (by decide)]; exact q6) (by omega) hN, qz_bi, hX, qy_q (v := 5) (j := 5) rfl (by omega), r5, e1]
  unfold f_L_closes_86
  rw [qy_q (v := 5) (j := 5) rfl (by omega), r5]
  by_cases h5 : y 5 = 1
  · rw [if_pos h5, if_pos h5, if_pos h5, qy_q (v := 1) (j := 1) rfl (by omega), r1]
    by_cases hu : u ≤ 1
    · rw [if_pos (show nI u ≤ 1 from nI_le (b := 1) hu (by omega))]
      have ew : qz_w2 (nI u) w a = w - 1 := by
        unfold qz_w2
        rw [if_pos (show nI u ≤ 1 from nI_le (b := 1) hu (by omega))]
      rw [ew]
      unfold f_L_closes_110
      by_cases h0 : w = 0
      · subst h0
        rw [if_pos (by decide), qy_qw (v := 1) (j := 1) rfl (by omega), qz_bvs]
        rfl
      · rw [if_neg (nI_nle (by omega) (by omega)), qy_q (v := 1) (j := 1) rfl (by omega), r1, qz_nm, qy_qw (v := 1) (j := 1) rfl (by omega), qz_bvs]
        have e := nI_pred (w - 1)
        rw [show w - 1 + 1 = w by omega] at e
        rw [e]
    · rw [if_neg (show ¬ nI u ≤ 1 from nI_ge (a := 1) (b := u) (by omega) (by omega)), qy_q (v := 1) (j := 1) rfl (by omega), qy_q (v := 2) (j := 2) rfl (by omega), r1, r2]
      have ew : qz_w2 (nI u) w a = min (w + 1) a := by
        unfold qz_w2
        rw [if_neg (show ¬ nI u ≤ 1 from nI_ge (a := 1) (b := u) (by omega) (by omega))]
      rw [ew]
      unfold f_L_closes_82
      by_cases h0 : a ≤ w
      · rw [if_pos (nI_le h0 (by omega)), qy_q (v := 2) (j := 2) rfl (by omega), r2, qy_qw (v := 1) (j := 1) rfl (by omega), qz_bvs, show min (w + 1) a = a by omega]
      · rw [if_neg (nI_ge (by omega) (by omega)), qy_q (v := 1) (j := 1) rfl (by omega), r1, qz_nm, qy_qw (v := 1) (j := 1) rfl (by omega), qz_bvs, show min (w + 1) a = w + 1 by omega, nI_1]
  · rw [if_neg h5, if_neg h5, if_neg h5, qz_bvs]
/-- the law's closes and the model's close -/
theorem qL_closes (hL : qL X y n p) (h9 : y 9 = -5 ∨ ∃ j : Nat, j < p ∧ y 9 = nI j) (h8 : y 8 = nI j0) (hj : j0 < p) (h1 : ∃ w : Nat, w ≤ 20 ∧ y 1 = nI w) (h2 : ∃ a : Nat, a ≤ 20 ∧ y 2 = nI a) (hr : r ≤ 3) (hN : 200 ≤ N) : ∃ (X2 : XT) (y2 : Nat → Int32), f_X8_close N (nI r) (m_up Z 1 y) = some (m_up Z 1 y2) ∧ f_L_closes N (nI r) X = some X2 ∧ qlo X X2 ∧ qL X2 y2 n p ∧ (y2 9 = -5 ∨ ∃ j : Nat, j < p ∧ y2 9 = nI j) := by
  obtain ⟨w, hw, h1⟩ := h1
  obtain ⟨a, ha, h2⟩ := h2
  have hn := hL.1
  have hp := hL.2.1
  rw [qe_M hL.2.2.1.2.2.2.2.2.2.2.1 hn h8 (by omega) h1 h2 hw ha hN, qe_F hL h8 hj h1 h2 hw ha hN]
  have hlo : qlo X (qe_X X n j0 r) := qlo_tr (qlo_tr (qlo_up (by omega)) (qlo_up (by omega))) (qlo_up (by omega))
  have hL2 := qe_L hL hj hr
  have h92 : qe_Y y n j0 r 9 = y 9 := qe_Yo (by omega) (by omega) hn
  by_cases h5 : y 5 = 1
  · rw [if_pos h5, if_pos h5]
    obtain ⟨X2, y2, z1, z2, z3, z4, z5⟩ := qL_writes (N := N) (Z := Z) (qe_LW hL2 (nI (qz_w2 (qz_mem y n (nI j0)) w a))) (by rw [qz_uo (by omega), h92]; exact h9) hN
    exact ⟨X2, y2, z1, z2, qlo_tr (qlo_tr hlo (qlo_up (by omega))) z3, z4, z5⟩
  · rw [if_neg h5, if_neg h5]
    obtain ⟨X2, y2, z1, z2, z3, z4, z5⟩ := qL_writes (N := N) (Z := Z) hL2 (by rw [h92]; exact h9) hN
    exact ⟨X2, y2, z1, z2, qlo_tr hlo z3, z4, z5⟩
end QL3
