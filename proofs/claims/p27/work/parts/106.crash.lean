-- crash and set: the law's due beside the model
section QL6
variable {N n p g k j j0 c w f e t : Nat} {X X2 Z Xc : XT} {y y2 : Nat → Int32}
theorem qs_01 (P : Nat → Prop) [DecidablePred P] : ∀ n : Nat, ∃ a : Nat, a ≤ n ∧ qz_sum (fun k => if P k then 1 else 0) n = nI a := by
  intro n
  induction n with
  | zero => exact ⟨0, Nat.le_refl _, rfl⟩
  | succ n ih =>
    obtain ⟨a, a1, a2⟩ := ih
    have e : qz_sum (fun k => if P k then (1 : Int32) else 0) (n + 1) = qz_sum (fun k => if P k then 1 else 0) n + (if P n then 1 else 0) := rfl
    rw [e, a2]
    by_cases h : P n
    · rw [if_pos h]; exact ⟨a + 1, by omega, nI_1 a⟩
    · rw [if_neg h]; exact ⟨a, by omega, Int32.add_zero _⟩
def qx_X (X : XT) (n j : Nat) : XT := m_up (m_up X 132 (ql_tr X j 5 n)) 136 (upd (X 136) j ((X 136 j &&& (-8)) ||| 5))
theorem qx_L (hL : qL X y n p) (hj : j0 < p) : qL (qx_X X n j0) (upd (qz_turn y n (nI j0) 5) (1216 + 4 * j0 + 0) 5) n p := by
  obtain ⟨hn, hp, hq, ht, hc, hg⟩ := hL
  have r132 : qx_X X n j0 132 = ql_tr X j0 5 n := by
    unfold qx_X
    rw [qz_un _ _ (by decide), qz_up]
  have r136 : qx_X X n j0 136 = upd (X 136) j0 ((X 136 j0 &&& (-8)) ||| 5) := by
    unfold qx_X
    rw [qz_up]
  have ro : ∀ i : Nat, i ≠ 132 → i ≠ 136 → qx_X X n j0 i = X i := fun i h1 h2 => by
    unfold qx_X
    rw [qz_un _ _ h2, qz_un _ _ h1]
  have yl : ∀ a : Nat, a < 16 → upd (qz_turn y n (nI j0) 5) (1216 + 4 * j0 + 0) 5 a = y a := fun a h1 => by rw [qz_uo (by omega), qz_turn_o (by omega)]
  refine ⟨hn, hp, ?_, ?_, fun i hi => ?_, fun j hj2 => ?_⟩
  · rw [ro 131 (by decide) (by decide)]
    obtain ⟨q0, q1, q2, q3, q4, q5, q6, y6, q7, y7, q8, q9, q11, q12, q13, q14, q15, q16, q17, q18⟩ := hq
    unfold qL_q
    simp only [yl, Nat.reduceLT]
    exact ⟨q0, q1, q2, q3, q4, q5, q6, y6, q7, y7, q8, q9, q11, q12, q13, q14, q15, q16, q17, q18⟩
  · rw [ro 131 (by decide) (by decide)]
    intro j h1 h2
    rw [yl 9 (by omega)] at h2
    rw [qz_uo (by omega), qz_turn_o (by omega)]
    exact ht j h1 h2
  · rw [r132, ro 133 (by decide) (by decide), ro 134 (by decide) (by decide), ro 135 (by decide) (by decide)]
    exact qc_c (fun w hw => qz_uo (by omega)) (qL_tr (v := 5) (by omega) hc (by omega) hi)
  · rw [r136, ro 137 (by decide) (by decide)]
    by_cases e : j = j0
    · subst e
      rw [qz_us]
      obtain ⟨s, r, s1, s2, s3, e0, e2, ea, eb⟩ := hg j hj2
      refine ⟨5, r, by omega, by omega, s3, ?_, ?_, ?_, fun q => absurd q (by omega)⟩
      · rw [qz_us]; rfl
      · rw [qz_uo (by omega), qz_turn_o (by omega)]; exact e2
      · rw [ea, qy_gone _ (by omega)]
        congr 1
        omega
    · rw [qz_uo e]
      exact qg_c (fun w hw => by rw [qz_uo (by omega), qz_turn_o (by omega)]) (hg j hj2)
theorem qx_end (hL : qL X y n p) (v : Int32) : qL (m_up (m_up (m_up X 131 (upd (X 131) 8 (-5))) 131 (upd (upd (X 131) 8 (-5)) 9 (-5))) 131 (upd (upd (upd (X 131) 8 (-5)) 9 (-5)) 12 (X 131 12 + v))) (upd (upd (upd y 8 (-5)) 9 (-5)) 11 (y 11 + v)) n p := by
  obtain ⟨hn, hp, hq, ht, hc, hg⟩ := hL
  refine ⟨hn, hp, ?_, ?_, fun i hi => ?_, fun j hj2 => ?_⟩
  · rw [qz_up]
    obtain ⟨q0, q1, q2, q3, q4, q5, q6, y6, q7, y7, q8, q9, q11, q12, q13, q14, q15, q16, q17, q18⟩ := hq
    unfold qL_q
    simp only [upd, Nat.reduceEqDiff, if_false, if_true, q12]
    exact ⟨q0, q1, q2, q3, q4, q5, q6, y6, q7, y7, trivial, trivial, q11, trivial, q13, q14, q15, q16, q17, q18⟩
  · intro j h1 h2
    rw [qz_uo (by omega), qz_us] at h2
    exact absurd h2 (qz_5n (by omega))
  · rw [qz_un _ _ (by decide), qz_un _ _ (by decide), qz_un _ _ (by decide), qz_un _ _ (by decide), qz_un _ _ (by decide), qz_un _ _ (by decide), qz_un _ _ (by decide), qz_un _ _ (by decide), qz_un _ _ (by decide), qz_un _ _ (by decide), qz_un _ _ (by decide), qz_un _ _ (by decide)]
    exact qc_c (fun w hw => by rw [qz_uo (by omega), qz_uo (by omega), qz_uo (by omega)]) (hc i hi)
  · rw [qz_un _ _ (by decide), qz_un _ _ (by decide), qz_un _ _ (by decide), qz_un _ _ (by decide), qz_un _ _ (by decide), qz_un _ _ (by decide)]
    exact qg_c (fun w hw => by rw [qz_uo (by omega), qz_uo (by omega), qz_uo (by omega)]) (hg j hj2)
theorem qx_loop (h : qz_R Xc y n p f e t 0) (hN : 200 ≤ N) : ∀ (d fuel j : Nat) (X : XT), j + d = p → d < fuel → qL X (qz_cr y n j) n p → ∃ X2 : XT, f_L_due_90 N fuel (qz_crs y n j) (nI j) X = f_L_due_148 N (qz_crs y n p) X2 ∧ qlo X X2 ∧ qL X2 (qz_cr y n p) n p := by
  intro d
  induction d with
  | zero =>
    intro fuel j X hj hF hL
    obtain ⟨F, rfl⟩ : ∃ F, fuel = F + 1 := ⟨fuel - 1, by omega⟩
    have e : j = p := by omega
    subst e
    have hp := hL.2.1
    refine ⟨X, ?_, qlo_rf, hL⟩
    rw [f_L_due_90, qy_q (v := 7) (j := 7) rfl (by omega), hL.2.2.1.2.2.2.2.2.2.2.2.1, if_pos (nI_le (Nat.le_refl _) (by omega))]
  | succ d ih =>
    intro fuel j X hj hF hL
    obtain ⟨F, rfl⟩ : ∃ F, fuel = F + 1 := ⟨fuel - 1, by omega⟩
    have hL0 := hL
    obtain ⟨hn, hp, hq, ht, hc, hg⟩ := hL
    have hs := qz_cr_s h (j := j) (by omega)
    have hss := qz_crs_s h (j := j) (by omega)
    have h7 := qg_7 (hg j (by omega))
    rw [qz_cr_g, if_neg (fun q => Nat.lt_irrefl _ q.1)] at h7
    rw [f_L_due_90, qy_q (v := 7) (j := 7) rfl (by omega), hq.2.2.2.2.2.2.2.2.1, if_neg (nI_ge (by omega) (by omega)), qy_r rfl (show j < 48 by omega), qz_nm, h7]
    by_cases h4 : 4 ≤ y (1216 + 4 * j + 0)
    · rw [if_pos h4] at hs hss ⊢
      rw [qz_nm, nI_1, ← hss]
      exact ih F (j + 1) X (by omega) (by omega) (by rw [hs]; exact hL0)
    · rw [if_neg h4] at hs hss ⊢
      have hx := qx_L (j0 := j) hL0 (by omega)
      rw [← hs] at hx
      obtain ⟨X2, z1, z2, z3⟩ := ih F (j + 1) (qx_X X n j) (by omega) (by omega) hx
      refine ⟨X2, ?_, qlo_tr (qlo_tr (qlo_up (by omega)) (qlo_up (by omega))) z2, z3⟩
      rw [qy_turns (n := n) hq.2.2.2.2.2.2.1 (by omega) hN, qz_bi, qL_tc hc (by omega), qz_nm, qy_r rfl (show j < 48 by omega), qz_un _ _ (show (136 : Nat) ≠ 132 by decide), qz_nm, qz_nm, qz_gd (qz_in (show j < 48 by omega) (by omega)), nI_clamp (by omega), qz_nm, qz_nm, nI_1, ← hss, ← z1]
      rfl
/-- crash -/
theorem qL_crash {a b : Int32} (h : qz_R Xc y n p f e t 0) (hL : qL X y n p) (hN : 200 ≤ N) : ∃ (r : Int32) (X3 : XT) (y3 : Nat → Int32), f_X8_doesCrash N (m_up Z 1 y) = some (r, m_up Z 1 y3) ∧ f_L_due N 6 a b X = some (r, X3) ∧ qlo X X3 ∧ qL X3 y3 n p ∧ ¬ r < 0 := by
  have hn := hL.1
  have hp := hL.2.1
  have hm := qz_crM_l (Z := Z) h hN N 0 (by omega) (by omega)
  rw [qz_cr_0] at hm
  obtain ⟨X2, z1, z2, z3⟩ := qx_loop h hN p N 0 X (by omega) (by omega) (by rw [qz_cr_0]; exact hL)
  have e0 : qz_crs y n 0 = 0 := qz_sum_0 n (fun k _ => if_neg (fun q => absurd q.2 (by omega)))
  rw [e0, nI_0] at hm z1
  unfold f_X8_doesCrash f_L_due
  rw [hm, if_pos (show (2 : Int32) ≤ 6 by decide), if_neg (show ¬ (6 : Int32) = 2 by decide), if_neg (show ¬ (6 : Int32) = 5 by decide), if_pos rfl, z1]
  unfold f_X8_doesCrash_47 f_L_due_148
  rw [qz_wr (v := 8) (w := 8) rfl (by omega), qz_wr (v := 9) (w := 9) rfl (by omega), qz_rd (v := 11) (w := 11) rfl (by omega), qz_nm, qz_wr (v := 11) (w := 11) rfl (by omega), qz_uo (show (11 : Nat) ≠ 9 by decide), qz_uo (show (11 : Nat) ≠ 8 by decide)]
  refine ⟨qz_crs y n p, _, _, rfl, ?_, ?_, qx_end z3 (qz_crs y n p), ?_⟩
  · rw [qy_qw (v := 8) (j := 8) rfl (by omega), qz_gd (show m_in 9 17 by decide), qz_nm, qy_q (v := 12) (j := 12) rfl (by omega), qz_nm, qz_gd (show m_in 12 17 by decide), qz_nm]
    rfl
  · exact qlo_tr z2 (qlo_tr (qlo_tr (qlo_up (by omega)) (qlo_up (by omega))) (qlo_up (by omega)))
  · obtain ⟨m, m1, m2⟩ := qs_01 (fun k => ¬ 4 ≤ y (16 + 8 * k + 3) ∧ (y (16 + 8 * k + 6)).toNatClampNeg < p) n
    have e : qz_crs y n p = nI m := m2
    rw [e]
    exact nI_pos (by omega)
/-- set -/
theorem qL_set {b : Int32} (hL : qL X y n p) (hj : j < 4) (hb : ¬ b < 0) : f_L_due N 5 (nI j) b X = some (y (2 + j), m_up X 131 (upd (X 131) (2 + j) b)) ∧ qL (m_up X 131 (upd (X 131) (2 + j) b)) (upd y (2 + j) b) n p := by
  obtain ⟨hn, hp, hq, ht, hc, hg⟩ := hL
  have eq : X 131 (2 + j) = y (2 + j) := by
    obtain ⟨q0, q1, q2, q3, q4, q5, q6, y6, q7, y7, q8, q9, q11, q12, q13, q14, q15, q16, q17, q18⟩ := hq
    have hc : j = 0 ∨ j = 1 ∨ j = 2 ∨ j = 3 := by omega
    rcases hc with rfl | rfl | rfl | rfl
    · exact q2
    · exact q3
    · exact q4
    · exact q5
  have ei : (2 : Int32) + nI j = nI (2 + j) := by rw [show (2 : Int32) = nI 2 from rfl, nI_add]
  refine ⟨?_, hn, hp, ?_, ?_, fun i hi => ?_, fun j hj2 => ?_⟩
  · unfold f_L_due
    rw [if_pos (show (2 : Int32) ≤ 5 by decide), if_neg (show ¬ (5 : Int32) = 2 by decide), if_pos rfl, qz_nm, ei, qy_q (v := nI (2 + j)) (j := 2 + j) rfl (by omega), qz_nm, qy_qw (v := nI (2 + j)) (j := 2 + j) rfl (by omega), eq]
  · rw [qz_up]
    obtain ⟨q0, q1, q2, q3, q4, q5, q6, y6, q7, y7, q8, q9, q11, q12, q13, q14, q15, q16, q17, q18⟩ := hq
    unfold qL_q
    have hc : j = 0 ∨ j = 1 ∨ j = 2 ∨ j = 3 := by omega
    rcases hc with rfl | rfl | rfl | rfl
    · simp only [upd, Nat.reduceAdd, Nat.reduceEqDiff, if_false, if_true]
      exact ⟨q0, q1, trivial, q3, q4, q5, q6, y6, q7, y7, q8, q9, q11, q12, q13, q14, q15, q16, q17, q18⟩
    · simp only [upd, Nat.reduceAdd, Nat.reduceEqDiff, if_false, if_true]
      exact ⟨q0, q1, q2, trivial, q4, q5, q6, y6, q7, y7, q8, q9, q11, q12, q13, q14, q15, q16, hb, q18⟩
    · simp only [upd, Nat.reduceAdd, Nat.reduceEqDiff, if_false, if_true]
      exact ⟨q0, q1, q2, q3, trivial, q5, q6, y6, q7, y7, q8, q9, q11, q12, q13, q14, q15, q16, q17, q18⟩
    · simp only [upd, Nat.reduceAdd, Nat.reduceEqDiff, if_false, if_true]
      exact ⟨q0, q1, q2, q3, q4, trivial, q6, y6, q7, y7, q8, q9, q11, q12, q13, q14, q15, q16, q17, hb⟩
  · rw [qz_up]
    intro i h1 h2
    rw [qz_uo (by omega)] at h2
    rw [qz_uo (by omega), qz_uo (by omega)]
    exact ht i h1 h2
  · rw [qz_un _ _ (by decide), qz_un _ _ (by decide), qz_un _ _ (by decide), qz_un _ _ (by decide)]
    exact qc_c (fun w hw => qz_uo (by omega)) (hc i hi)
  · rw [qz_un _ _ (by decide), qz_un _ _ (by decide)]
    exact qg_c (fun w hw => qz_uo (by omega)) (hg j hj2)
end QL6
