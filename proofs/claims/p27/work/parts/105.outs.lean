-- a commit leaves: the law's outs beside the model's takeOut; fail and withdraw
section QL5
variable {N n p g k j j0 c w f e t : Nat} {X X2 Z Xc : XT} {y y2 : Nat → Int32}
def qo_X (X : XT) (k w : Nat) : XT := m_up (m_up X 132 (upd (X 132) k (ql_bec (X 132 k) (nI w)))) 135 (upd (X 135) k (X 135 k + 1))
def qo_Y (y : Nat → Int32) (k w : Nat) : Nat → Int32 := upd (upd y (16 + 8 * k + 3) (nI w)) (16 + 8 * k + 7) 0
theorem qo_Yo {a : Nat} (h1 : a ≠ 16 + 8 * k + 3) (h2 : a ≠ 16 + 8 * k + 7) : qo_Y y k w a = y a := by
  unfold qo_Y
  rw [qz_uo h2, qz_uo h1]
theorem qo_L (hL : qL X y n p) (hk : k < n) (hw : w ≤ 6) (h7 : y (16 + 8 * k + 7) = 1) : qL (qo_X X k w) (qo_Y y k w) n p := by
  obtain ⟨hn, hp, hq, ht, hc, hg⟩ := hL
  have r135 : qo_X X k w 135 = upd (X 135) k (X 135 k + 1) := by
    unfold qo_X
    rw [qz_up]
  have r132 : qo_X X k w 132 = upd (X 132) k (ql_bec (X 132 k) (nI w)) := by
    unfold qo_X
    rw [qz_un _ _ (by decide), qz_up]
  have ro : ∀ i : Nat, i ≠ 132 → i ≠ 135 → qo_X X k w i = X i := fun i h1 h2 => by
    unfold qo_X
    rw [qz_un _ _ h2, qz_un _ _ h1]
  have yl : ∀ a : Nat, a < 16 → qo_Y y k w a = y a := fun a h1 => qo_Yo (by omega) (by omega)
  refine ⟨hn, hp, ?_, ?_, fun i hi => ?_, fun j hj2 => ?_⟩
  · rw [ro 131 (by decide) (by decide)]
    obtain ⟨q0, q1, q2, q3, q4, q5, q6, y6, q7, y7, q8, q9, q11, q12, q13, q14, q15, q16, q17, q18⟩ := hq
    unfold qL_q
    simp only [yl, Nat.reduceLT]
    exact ⟨q0, q1, q2, q3, q4, q5, q6, y6, q7, y7, q8, q9, q11, q12, q13, q14, q15, q16, q17, q18⟩
  · rw [ro 131 (by decide) (by decide)]
    intro j h1 h2
    rw [yl 9 (by omega)] at h2
    rw [qo_Yo (by omega) (by omega)]
    exact ht j h1 h2
  · rw [r132, r135, ro 133 (by decide) (by decide), ro 134 (by decide) (by decide)]
    by_cases e : i = k
    · subst e
      rw [qz_us, qz_us]
      have hb := qc_bec (y2 := upd y (16 + 8 * i + 3) (nI w)) hw (by rw [qz_us]) (fun w h1 h2 => qz_uo (by omega)) (hc i hi)
      obtain ⟨cl, rc, u, w2, gr, me, h1, h2, h3, h4, h5, h6, e0, e1, e2, e3, e6, e7, ea, eb, ec, ed⟩ := hb
      have hme : me = 1 := by
        rw [qz_uo (by omega), h7] at e7
        exact ((nI_eq (a := 1) (by omega) (by omega)).mp e7).symm
      subst hme
      refine ⟨cl, rc, u, w2, gr, 0, h1, h2, h3, h4, h5, by omega, ?_, ?_, ?_, ?_, ?_, ?_, ea, ?_, ?_, ?_⟩
      · unfold qo_Y; rw [qz_uo (by omega)]; exact e0
      · unfold qo_Y; rw [qz_uo (by omega)]; exact e1
      · unfold qo_Y; rw [qz_uo (by omega)]; exact e2
      · unfold qo_Y; rw [qz_uo (by omega)]; exact e3
      · unfold qo_Y; rw [qz_uo (by omega)]; exact e6
      · unfold qo_Y; rw [qz_us]; rfl
      · unfold qo_Y; rw [qz_uo (by omega)]; exact eb
      · unfold qo_Y; rw [qz_uo (by omega)]; exact ec
      · rw [ed, nI_1]
    · rw [qz_uo e, qz_uo e]
      exact qc_c (fun w hw => qo_Yo (by omega) (by omega)) (hc i hi)
  · rw [ro 136 (by decide) (by decide), ro 137 (by decide) (by decide)]
    exact qg_c (fun w hw => qo_Yo (by omega) (by omega)) (hg j hj2)
/-- the group is gone -/
theorem qo_gone (hL : qL X y n p) (hj : j0 < p) (hst : y (1216 + 4 * j0 + 0) = 1) : qL (m_up (m_up X 136 (upd (X 136) j0 5)) 131 (upd (X 131) 8 (-5))) (upd (upd y (1216 + 4 * j0 + 0) 5) 8 (-5)) n p := by
  obtain ⟨hn, hp, hq, ht, hc, hg⟩ := hL
  have yl : ∀ a : Nat, a < 16 → a ≠ 8 → upd (upd y (1216 + 4 * j0 + 0) 5) 8 (-5) a = y a := fun a h1 h2 => by rw [qz_uo h2, qz_uo (by omega)]
  have y8 : upd (upd y (1216 + 4 * j0 + 0) 5) 8 (-5) 8 = -5 := qz_us
  refine ⟨hn, hp, ?_, ?_, fun i hi => ?_, fun j hj2 => ?_⟩
  · rw [qz_up]
    obtain ⟨q0, q1, q2, q3, q4, q5, q6, y6, q7, y7, q8, q9, q11, q12, q13, q14, q15, q16, q17, q18⟩ := hq
    unfold qL_q
    simp only [yl, y8, Nat.reduceLT, ne_eq, Nat.reduceEqDiff, not_false_eq_true]
    simp only [upd, Nat.reduceEqDiff, if_false, if_true]
    exact ⟨q0, q1, q2, q3, q4, q5, q6, y6, q7, y7, trivial, q9, q11, q12, q13, q14, q15, q16, q17, q18⟩
  · rw [qz_up]
    intro j h1 h2
    rw [yl 9 (by omega) (by omega)] at h2
    rw [qz_uo (by omega), qz_uo (by omega), qz_uo (by omega)]
    exact ht j h1 h2
  · rw [qz_un _ _ (by decide), qz_un _ _ (by decide), qz_un _ _ (by decide), qz_un _ _ (by decide), qz_un _ _ (by decide), qz_un _ _ (by decide), qz_un _ _ (by decide), qz_un _ _ (by decide)]
    exact qc_c (fun w hw => by rw [qz_uo (by omega), qz_uo (by omega)]) (hc i hi)
  · rw [qz_un _ _ (by decide), qz_up, qz_un _ _ (by decide), qz_un _ _ (by decide)]
    by_cases e : j = j0
    · subst e
      rw [qz_us]
      obtain ⟨s, r, s1, s2, s3, e0, e2, ea, eb⟩ := hg j hj2
      have es : s = 1 := by
        rw [hst] at e0
        exact ((nI_eq (a := 1) (by omega) (by omega)).mp e0).symm
      have er := (eb es).1
      subst er
      refine ⟨5, 0, by omega, by omega, by omega, ?_, ?_, rfl, fun q => absurd q (by omega)⟩
      · rw [qz_uo (by omega), qz_us]; rfl
      · rw [qz_uo (by omega), qz_uo (by omega)]; exact e2
    · rw [qz_uo e]
      exact qg_c (fun w hw => by rw [qz_uo (by omega), qz_uo (by omega)]) (hg j hj2)
/-- another leader -/
theorem qo_lead (hL : qL X y n p) (hj : j0 < p) (v : Int32) : qL (m_up X 137 (upd (X 137) j0 v)) (upd y (1216 + 4 * j0 + 1) v) n p := by
  obtain ⟨hn, hp, hq, ht, hc, hg⟩ := hL
  have yl : ∀ a : Nat, a < 16 → upd y (1216 + 4 * j0 + 1) v a = y a := fun a h1 => qz_uo (by omega)
  refine ⟨hn, hp, ?_, ?_, fun i hi => ?_, fun j hj2 => ?_⟩
  · rw [qz_un _ _ (by decide)]
    obtain ⟨q0, q1, q2, q3, q4, q5, q6, y6, q7, y7, q8, q9, q11, q12, q13, q14, q15, q16, q17, q18⟩ := hq
    unfold qL_q
    simp only [yl, Nat.reduceLT]
    exact ⟨q0, q1, q2, q3, q4, q5, q6, y6, q7, y7, q8, q9, q11, q12, q13, q14, q15, q16, q17, q18⟩
  · rw [qz_un _ _ (by decide)]
    intro j h1 h2
    rw [yl 9 (by omega)] at h2
    rw [qz_uo (by omega)]
    exact ht j h1 h2
  · rw [qz_un _ _ (by decide), qz_un _ _ (by decide), qz_un _ _ (by decide), qz_un _ _ (by decide)]
    exact qc_c (fun w hw => qz_uo (by omega)) (hc i hi)
  · rw [qz_un _ _ (by decide), qz_up]
    by_cases e : j = j0
    · subst e
      rw [qz_us]
      obtain ⟨s, r, s1, s2, s3, e0, e2, ea, eb⟩ := hg j hj2
      refine ⟨s, r, s1, s2, s3, ?_, ?_, ea, fun q => ⟨(eb q).1, ?_⟩⟩
      · rw [qz_uo (by omega)]; exact e0
      · rw [qz_uo (by omega)]; exact e2
      · rw [qz_us]
    · rw [qz_uo e]
      exact qg_c (fun w hw => qz_uo (by omega)) (hg j hj2)
theorem qL_outs (hL : qL X y n p) (hk : k < n) (hw : w ≤ 6) (h7 : y (16 + 8 * k + 7) = 1) (h8 : y 8 = nI j0) (hj : j0 < p) (hst : y (1216 + 4 * j0 + 0) = 1) (hN : 200 ≤ N) : ∃ (X2 : XT) (y2 : Nat → Int32), f_X8_takeOut N (nI k) (nI w) (m_up Z 1 y) = some (m_up Z 1 y2) ∧ f_L_outs N (nI k) (nI w) X = some X2 ∧ qlo X X2 ∧ qL X2 y2 n p ∧ y2 (16 + 8 * k + 6) = y (16 + 8 * k + 6) := by
  have hL1 := qo_L hL hk hw h7
  have hL1' := hL1
  obtain ⟨hn, hp, hq, ht, hc, hg⟩ := hL
  obtain ⟨q0, q1, q2, q3, q4, q5, q6, y6, q7, y7, q8, q9, _⟩ := hq
  obtain ⟨_, _, hq1, ht1, hc1, hg1⟩ := hL1
  have r131 : qo_X X k w 131 = X 131 := by
    unfold qo_X
    rw [qz_un _ _ (by decide), qz_un _ _ (by decide)]
  have yl : ∀ a : Nat, a < 16 → qo_Y y k w a = y a := fun a h1 => qo_Yo (by omega) (by omega)
  obtain ⟨u, v, u1, v1, m1, m2, m3⟩ := qL_mem hc1 (g := j0) (by omega) n (Nat.le_refl _)
  have hlo : qlo X (qo_X X k w) := qlo_tr (qlo_up (by omega)) (qlo_up (by omega))
  have hst1 : qo_Y y k w (1216 + 4 * j0 + 0) = 1 := by rw [qo_Yo (by omega) (by omega)]; exact hst
  have key : ∀ b : Int32, (b = 0 ∨ b = 1) → ∃ (X2 : XT) (y2 : Nat → Int32), f_X8_takeOut_23 N (nI k) (nI w) (nI j0) b (m_up Z 1 y) = some (m_up Z 1 y2) ∧ f_L_outs_23 N (nI k) (nI w) (nI j0) b X = some X2 ∧ qlo X X2 ∧ qL X2 y2 n p ∧ y2 (16 + 8 * k + 6) = y (16 + 8 * k + 6) := by
    intro b hb
    unfold f_X8_takeOut_23 f_L_outs_23
    rw [qz_setOf (v := 3) (w := 3) rfl (by omega) (by omega), qz_bv, qz_setOf (v := 7) (w := 7) rfl (by omega) (by omega), qz_bv, qy_becF (by omega), qz_bv, qy_r rfl (show k < 48 by omega), qz_nm, qy_rw rfl (show k < 48 by omega)]
    have hX : m_up (m_up X 132 (upd (X 132) k (ql_bec (X 132 k) (nI w)))) 135 (upd (m_up X 132 (upd (X 132) k (ql_bec (X 132 k) (nI w))) 135) k (m_up X 132 (upd (X 132) k (ql_bec (X 132 k) (nI w))) 135 k + 1)) = qo_X X k w := rfl
    have hY : upd (upd y (16 + 8 * k + 3) (nI w)) (16 + 8 * k + 7) 0 = qo_Y y k w := rfl
    rw [hX, hY, qz_members (n := n) (by rw [yl 6 (by omega)]; exact y6) (by omega) hN, qz_bi, qy_members (n := n) (by rw [r131]; exact q6) (by omega) hN, qz_bi, m1, m3]
    by_cases hu : u = 0
    · have hv : v = 0 := by omega
      subst hu
      subst hv
      rw [if_pos nI_0, if_pos nI_0, qz_setG (v := 0) (w := 0) rfl (by omega) (by omega), qz_bv, qz_wr (v := 8) (w := 8) rfl (by omega), qy_rw rfl (show j0 < 48 by omega), qy_qw (v := 8) (j := 8) rfl (by omega)]
      refine ⟨_, _, rfl, rfl, qlo_tr (qlo_tr hlo (qlo_up (by omega))) (qlo_up (by omega)), ?_, ?_⟩
      · rw [qz_un _ _ (show (131 : Nat) ≠ 136 by decide)]
        exact qo_gone hL1' hj hst1
      · rw [qz_uo (by omega), qz_uo (by omega), qo_Yo (by omega) (by omega)]
    · rw [if_neg (nI_ne0 (by omega) (by omega)), if_neg (nI_ne0 (by omega) (by omega))]
      rcases hb with rfl | rfl
      · rw [if_pos rfl, if_pos rfl]
        exact ⟨_, _, rfl, rfl, hlo, hL1', qo_Yo (by omega) (by omega)⟩
      · rw [if_neg qz_10, if_neg qz_10, qz_rd (v := 0) (w := 0) rfl (by omega), qz_rd (v := 1) (w := 1) rfl (by omega), qz_nm, qz_setG (v := 1) (w := 1) rfl (by omega) (by omega), qz_bv, qy_q (v := 0) (j := 0) rfl (by omega), qy_q (v := 1) (j := 1) rfl (by omega), qz_nm, qy_rw rfl (show j0 < 48 by omega)]
        have e : qo_X X k w 131 0 + qo_X X k w 131 1 = qo_Y y k w 0 + qo_Y y k w 1 := by rw [hq1.1, hq1.2.1]
        rw [e]
        refine ⟨_, _, rfl, rfl, qlo_tr hlo (qlo_up (by omega)), qo_lead hL1' hj _, ?_⟩
        rw [qz_uo (by omega), qo_Yo (by omega) (by omega)]
  unfold f_X8_takeOut f_L_outs
  have q2 := qz_memberAt (N := N) (Z := Z) (g := nI j0) (r := 0) y6 (by omega) hN (by omega)
  rw [nI_0] at q2
  rw [qz_rd (v := 8) (w := 8) rfl (by omega), h8, q2, qz_bi, qy_q (v := 8) (j := 8) rfl (by omega), q8, h8, qy_first q6 (by omega) hN, qL_first hc (by omega), qz_bi]
  by_cases e : qz_at (fun i => qz_mb y i (nI j0)) n 0 0 = nI k
  · rw [if_pos e, if_pos e]
    exact key 1 (Or.inr rfl)
  · rw [if_neg e, if_neg e]
    exact key 0 (Or.inl rfl)
/-- a commit becomes something where it is -/
theorem qL_bec (hL : qL X y n p) (hk : k < n) (hw : w ≤ 6) : qL (m_up X 132 (upd (X 132) k (ql_bec (X 132 k) (nI w)))) (upd y (16 + 8 * k + 3) (nI w)) n p := by
  obtain ⟨hn, hp, hq, ht, hc, hg⟩ := hL
  have yl : ∀ a : Nat, a < 16 → upd y (16 + 8 * k + 3) (nI w) a = y a := fun a h1 => qz_uo (by omega)
  refine ⟨hn, hp, ?_, ?_, fun i hi => ?_, fun j hj2 => ?_⟩
  · rw [qz_un _ _ (by decide)]
    obtain ⟨q0, q1, q2, q3, q4, q5, q6, y6, q7, y7, q8, q9, q11, q12, q13, q14, q15, q16, q17, q18⟩ := hq
    unfold qL_q
    simp only [yl, Nat.reduceLT]
    exact ⟨q0, q1, q2, q3, q4, q5, q6, y6, q7, y7, q8, q9, q11, q12, q13, q14, q15, q16, q17, q18⟩
  · rw [qz_un _ _ (by decide)]
    intro j h1 h2
    rw [yl 9 (by omega)] at h2
    rw [qz_uo (by omega)]
    exact ht j h1 h2
  · rw [qz_up, qz_un _ _ (by decide), qz_un _ _ (by decide), qz_un _ _ (by decide)]
    by_cases e : i = k
    · subst e
      rw [qz_us]
      exact qc_bec hw (by rw [qz_us]) (fun w h1 h2 => qz_uo (by omega)) (hc i hi)
    · rw [qz_uo e]
      exact qc_c (fun w hw => qz_uo (by omega)) (hc i hi)
  · rw [qz_un _ _ (by decide), qz_un _ _ (by decide)]
    exact qg_c (fun w hw => qz_uo (by omega)) (hg j hj2)
/-- losses, withdrawals -/
theorem qL_bump {i : Nat} (hi : i = 12 ∨ i = 13) (hL : qL X y n p) (v : Int32) : qL (m_up X 131 (upd (X 131) i (X 131 i + v))) (upd y (i - 1) (y (i - 1) + v)) n p := by
  obtain ⟨hn, hp, hq, ht, hc, hg⟩ := hL
  refine ⟨hn, hp, ?_, ?_, fun i hi => ?_, fun j hj2 => ?_⟩
  · rw [qz_up]
    obtain ⟨q0, q1, q2, q3, q4, q5, q6, y6, q7, y7, q8, q9, q11, q12, q13, q14, q15, q16, q17, q18⟩ := hq
    unfold qL_q
    rcases hi with rfl | rfl
    · simp only [upd, Nat.reduceEqDiff, Nat.reduceSub, if_false, if_true, q12]
      exact ⟨q0, q1, q2, q3, q4, q5, q6, y6, q7, y7, q8, q9, q11, trivial, q13, q14, q15, q16, q17, q18⟩
    · simp only [upd, Nat.reduceEqDiff, Nat.reduceSub, if_false, if_true, q13]
      exact ⟨q0, q1, q2, q3, q4, q5, q6, y6, q7, y7, q8, q9, q11, q12, trivial, q14, q15, q16, q17, q18⟩
  · rw [qz_up]
    intro j h1 h2
    rw [qz_uo (by omega)] at h2
    rw [qz_uo (by omega), qz_uo (by omega)]
    exact ht j h1 h2
  · rw [qz_un _ _ (by decide), qz_un _ _ (by decide), qz_un _ _ (by decide), qz_un _ _ (by decide)]
    exact qc_c (fun w hw => qz_uo (by omega)) (hc i hi)
  · rw [qz_un _ _ (by decide), qz_un _ _ (by decide)]
    exact qg_c (fun w hw => qz_uo (by omega)) (hg j hj2)
/-- an open commit that gathers, in its group -/
theorem qL_opened (h : qz_R Xc y n p f e t 0) (hk : k < n) (h3 : y (16 + 8 * k + 3) = 1) : y (16 + 8 * k + 7) = 1 ∧ ∃ j0 : Nat, j0 < p ∧ y 8 = nI j0 ∧ y (1216 + 4 * j0 + 0) = 1 ∧ y (16 + 8 * k + 6) = nI j0 := by
  obtain ⟨k1, k2⟩ := qzR_ko h k hk (by rw [h3]; decide)
  obtain ⟨j0, j1, j2⟩ := qzR_kg h k hk
  have hs := (k2 j0 j1 j2).trans h3
  exact ⟨k1, j0, j1, (qzR_gu h j0 j1 hs), hs, j2⟩
/-- fail -/
theorem qL_fail {b : Int32} (h : qz_R Xc y n p f e t 0) (hL : qL X y n p) (hc : c < 12) (hN : 200 ≤ N) : ∃ (r : Int32) (X3 : XT) (y3 : Nat → Int32), f_X8_doesFail N (nI c) (m_up Z 1 y) = some (r, m_up Z 1 y3) ∧ f_L_due N 3 (nI c) b X = some (r, X3) ∧ qlo X X3 ∧ qL X3 y3 n p ∧ (¬ r < 0 ∨ r = -5) := by
  have hL0 := hL
  obtain ⟨hn, hp, hq, ht, hcc, hg⟩ := hL
  obtain ⟨q0, q1, q2, q3, q4, q5, q6, y6, q7, y7, q8, q9, _⟩ := hq
  unfold f_X8_doesFail f_L_due
  rw [qz_openM h hN hc, qz_bi, if_pos (show (2 : Int32) ≤ 3 by decide), if_neg (show ¬ (3 : Int32) = 2 by decide), if_neg (show ¬ (3 : Int32) = 5 by decide), if_neg (show ¬ (3 : Int32) = 6 by decide), qy_open q6 (by omega) hN, qL_open hcc, qz_openV h hc, qz_bi]
  rcases qzR_oc h c hc with ⟨o1, _⟩ | ⟨k, k1, k2, k3, k4⟩
  · rw [o1, if_pos rfl, if_pos (show (-5 : Int32) < 0 by decide)]
    unfold f_L_due_202 f_L_due_298
    rw [if_neg (show ¬ (3 : Int32) = 4 by decide), if_pos rfl, if_pos (show (-5 : Int32) < 0 by decide), qy_q (v := 12) (j := 12) rfl (by omega), if_pos (show (-5 : Int32) < 0 by decide), Int32.add_zero, qz_nm, qy_qw (v := 12) (j := 12) rfl (by omega)]
    refine ⟨-5, _, y, rfl, rfl, qlo_up (by omega), ?_, Or.inr rfl⟩
    have e1 : upd (X 131) 12 (X 131 12) = X 131 := by
      funext i
      by_cases hi : i = 12
      · subst hi; exact qz_us
      · exact qz_uo hi
    rw [e1, qz_ue]
    exact hL0
  · have hk5 : ¬ nI k = -5 := qz_n5 (by omega)
    have hm := (qc_what (hcc k k1))
    rw [k2, if_neg hk5, qz_of (v := 3) (w := 3) rfl (by omega) (by omega), qz_bi, if_neg (nI_pos (by omega)), qy_whatF (by omega), hm, qz_bi]
    have fin : ∀ (W : XT) (z : Nat → Int32), qlo X W → qL W z n p → ∃ (r : Int32) (X3 : XT) (y3 : Nat → Int32), f_X8_doesFail_41 N (nI k) (m_up Z 1 z) = some (r, m_up Z 1 y3) ∧ f_L_due_298 N (nI k) W = some (r, X3) ∧ qlo X X3 ∧ qL X3 y3 n p ∧ (¬ r < 0 ∨ r = -5) := by
      intro W z h1 h2
      unfold f_X8_doesFail_41 f_L_due_298
      rw [qz_rd (v := 11) (w := 11) rfl (by omega), qz_nm, qz_wr (v := 11) (w := 11) rfl (by omega), qy_q (v := 12) (j := 12) rfl (by omega), if_neg (nI_pos (by omega)), qz_nm, qy_qw (v := 12) (j := 12) rfl (by omega)]
      exact ⟨_, _, _, rfl, rfl, qlo_tr h1 (qlo_up (by omega)), qL_bump (Or.inl rfl) h2 1, Or.inl (nI_pos (by omega))⟩
    by_cases h3 : y (16 + 8 * k + 3) = 1
    · rw [if_pos h3, if_pos h3]
      obtain ⟨o7, j0, j1, j2, j3, _⟩ := qL_opened h k1 h3
      obtain ⟨W, z, z1, z2, z3, z4, _⟩ := qL_outs (Z := Z) (w := 5) hL0 k1 (by omega) o7 j2 j1 j3 hN
      have z1' : f_X8_takeOut N (nI k) 5 (m_up Z 1 y) = some (m_up Z 1 z) := z1
      have z2' : f_L_outs N (nI k) 5 X = some W := z2
      unfold f_L_due_202
      rw [z1', qz_bv, if_neg (show ¬ (3 : Int32) = 4 by decide), if_neg qz_10, z2', qz_bv]
      exact fin W z z3 z4
    · rw [if_neg h3, if_neg h3]
      unfold f_L_due_202
      rw [qz_setOf (v := 3) (w := 3) rfl (by omega) (by omega), qz_bv, if_neg (show ¬ (3 : Int32) = 4 by decide), if_pos rfl, if_neg (nI_pos (by omega)), qy_becF (by omega), qz_bv]
      exact fin _ _ (qlo_up (by omega)) (qL_bec (w := 5) hL0 k1 (by omega))
/-- withdraw -/
theorem qL_withdraw {b : Int32} (h : qz_R Xc y n p f e t 0) (hL : qL X y n p) (hc : c < 12) (hN : 200 ≤ N) : (f_X8_canWithdraw N (nI c) (m_up Z 1 y) = some (0, m_up Z 1 y) ∧ f_L_due N 4 (nI c) b X = some (-4, X)) ∨ ∃ (r : Int32) (X3 : XT) (y3 : Nat → Int32), f_X8_canWithdraw N (nI c) (m_up Z 1 y) = some (1, m_up Z 1 y) ∧ f_X8_doesWithdraw N (nI c) (m_up Z 1 y) = some (r, m_up Z 1 y3) ∧ f_L_due N 4 (nI c) b X = some (r, X3) ∧ qlo X X3 ∧ qL X3 y3 n p ∧ ¬ r < 0 := by
  have hL0 := hL
  obtain ⟨hn, hp, hq, ht, hcc, hg⟩ := hL
  obtain ⟨q0, q1, q2, q3, q4, q5, q6, y6, q7, y7, q8, q9, _⟩ := hq
  unfold f_X8_canWithdraw f_X8_doesWithdraw f_L_due
  rw [qz_openM h hN hc, qz_bi, qz_bi, if_pos (show (2 : Int32) ≤ 4 by decide), if_neg (show ¬ (4 : Int32) = 2 by decide), if_neg (show ¬ (4 : Int32) = 5 by decide), if_neg (show ¬ (4 : Int32) = 6 by decide), qy_open q6 (by omega) hN, qL_open hcc, qz_openV h hc, qz_bi]
  rcases qzR_oc h c hc with ⟨o1, _⟩ | ⟨k, k1, k2, k3, k4⟩
  · rw [o1, if_pos rfl, if_pos (show (-5 : Int32) < 0 by decide)]
    unfold f_L_due_202
    rw [if_pos rfl, if_pos rfl]
    exact Or.inl ⟨rfl, rfl⟩
  · have hk5 : ¬ nI k = -5 := qz_n5 (by omega)
    have hm := (qc_what (hcc k k1))
    rw [k2, if_neg hk5, qz_of (v := 3) (w := 3) rfl (by omega) (by omega), qz_bi, if_neg (nI_pos (by omega)), qy_whatF (by omega), hm, qz_bi]
    by_cases h3 : y (16 + 8 * k + 3) = 1
    · rw [if_pos h3, if_pos h3]
      obtain ⟨o7, j0, j1, j2, j3, j4⟩ := qL_opened h k1 h3
      obtain ⟨W, z, z1, z2, z3, z4, z5⟩ := qL_outs (Z := Z) (w := 6) hL0 k1 (by omega) o7 j2 j1 j3 hN
      have z1' : f_X8_takeOut N (nI k) 6 (m_up Z 1 y) = some (m_up Z 1 z) := z1
      have z2' : f_L_outs N (nI k) 6 X = some W := z2
      have hLb := qL_bump (i := 13) (Or.inr rfl) z4 1
      have hLb' := hLb
      obtain ⟨_, _, hqb, _, hcb, _⟩ := hLb
      obtain ⟨u, v, u1, v1, m1, m2, m3⟩ := qL_mem hcb (g := j0) (by omega) n (Nat.le_refl _)
      have e6 : upd z (13 - 1) (z (13 - 1) + 1) (16 + 8 * k + 6) = nI j0 := by rw [qz_uo (by omega), z5]; exact j4
      have er : nI (u + 1000 * v) - nI (u + 1000 * v) / 1000 * 1000 = nI u := by
        rw [show (1000 : Int32) = nI 1000 from rfl, pk_rem (by omega) (by omega) (by omega)]
        congr 1
        omega
      unfold f_L_due_202
      refine Or.inr ⟨nI u, m_up W 131 (upd (W 131) 13 (W 131 13 + 1)), upd z 12 (z 12 + 1), rfl, ?_, ?_, qlo_tr z3 (qlo_up (by omega)), hLb', nI_pos (by omega)⟩
      · rw [z1', qz_bv, qz_rd (v := 12) (w := 12) rfl (by omega), qz_nm, qz_wr (v := 12) (w := 12) rfl (by omega), qz_of (v := 6) (w := 6) rfl (by omega) (by omega), qz_bi, show upd z 12 (z 12 + 1) (16 + 8 * k + 6) = nI j0 from e6, qz_members (n := n) (y := upd z 12 (z 12 + 1)) hqb.2.2.2.2.2.2.2.1 (by omega) hN, qz_bi, show qz_mem (upd z 12 (z 12 + 1)) n (nI j0) = nI u from m1]
      · rw [if_pos rfl, if_neg qz_10, qy_q (v := 8) (j := 8) rfl (by omega), q8, j2, z2', qz_bv, qy_q (v := 13) (j := 13) rfl (by omega), qz_nm, qy_qw (v := 13) (j := 13) rfl (by omega), qy_members (n := n) hqb.2.2.2.2.2.2.1 (by omega) hN, qz_bi, m3, er, qz_nm]
    · rw [if_neg h3, if_neg h3]
      unfold f_L_due_202
      rw [if_pos rfl, if_pos rfl]
      exact Or.inl ⟨rfl, rfl⟩
end QL5
