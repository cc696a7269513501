-- a tick whole, and many
section QL8
variable {N n p g k j j0 c w f e t : Nat} {X X2 Z Xc : XT} {y y2 : Nat → Int32}
def qk_X (X : XT) (v : Int32) : XT := m_up (m_up X 131 (upd (X 131) 0 (X 131 0 + 1))) 131 (upd (upd (X 131) 0 (X 131 0 + 1)) 10 v)
theorem qk_131 {v : Int32} : qk_X X v 131 = upd (upd (X 131) 0 (X 131 0 + 1)) 10 v := qz_up _ _ _
theorem qk_o {v : Int32} {i : Nat} (h : i ≠ 131) : qk_X X v i = X i := by
  unfold qk_X
  rw [qz_un _ _ h, qz_un _ _ h]
theorem qk_LA (hL : qL X y n p) (h9 : y 9 = -5) (v : Int32) : qL (qk_X X v) (upd y 0 (y 0 + 1)) n p := by
  obtain ⟨hn, hp, hq, ht, hc, hg⟩ := hL
  refine ⟨hn, hp, ?_, ?_, fun i hi => ?_, fun j hj2 => ?_⟩
  · rw [qk_131]
    obtain ⟨q0, q1, q2, q3, q4, q5, q6, y6, q7, y7, q8, q9, q11, q12, q13, q14, q15, q16, q17, q18⟩ := hq
    unfold qL_q
    simp only [upd, Nat.reduceEqDiff, if_false, if_true]
    exact ⟨by rw [q0], q1, q2, q3, q4, q5, q6, y6, q7, y7, q8, q9, q11, q12, q13, q14, q15, q16, q17, q18⟩
  · intro j h1 h2
    rw [qz_uo (by omega), h9] at h2
    exact absurd h2 (qz_5n (by omega))
  · rw [qk_o (by decide), qk_o (by decide), qk_o (by decide), qk_o (by decide)]
    exact qc_c (fun w hw => qz_uo (by omega)) (hc i hi)
  · rw [qk_o (by decide), qk_o (by decide)]
    exact qg_c (fun w hw => qz_uo (by omega)) (hg j hj2)
theorem qk_LB (hL : qL X y n p) (h9 : y 9 = nI j0) (hj : j0 < p) (v : Int32) : qL (qk_X X v) (upd (upd y 0 (y 0 + 1)) (1216 + 4 * j0 + 3) v) n p := by
  obtain ⟨hn, hp, hq, ht, hc, hg⟩ := hL
  have yl : ∀ a : Nat, a < 16 → upd (upd y 0 (y 0 + 1)) (1216 + 4 * j0 + 3) v a = upd y 0 (y 0 + 1) a := fun a ha => qz_uo (by omega)
  refine ⟨hn, hp, ?_, ?_, fun i hi => ?_, fun j hj2 => ?_⟩
  · rw [qk_131]
    obtain ⟨q0, q1, q2, q3, q4, q5, q6, y6, q7, y7, q8, q9, q11, q12, q13, q14, q15, q16, q17, q18⟩ := hq
    unfold qL_q
    simp only [yl, Nat.reduceLT]
    simp only [upd, Nat.reduceEqDiff, if_false, if_true]
    exact ⟨by rw [q0], q1, q2, q3, q4, q5, q6, y6, q7, y7, q8, q9, q11, q12, q13, q14, q15, q16, q17, q18⟩
  · intro j h1 h2
    rw [yl 9 (by omega), qz_uo (by omega), h9, nI_eq (by omega) (by omega)] at h2
    subst h2
    rw [qk_131, qz_us, qz_us]
  · rw [qk_o (by decide), qk_o (by decide), qk_o (by decide), qk_o (by decide)]
    exact qc_c (fun w hw => by rw [qz_uo (by omega), qz_uo (by omega)]) (hc i hi)
  · rw [qk_o (by decide), qk_o (by decide)]
    exact qg_c (fun w hw => by rw [qz_uo (by omega), qz_uo (by omega)]) (hg j hj2)
-- a group is finished
def qf_X (X : XT) (n j0 : Nat) : XT := m_up (m_up (m_up (m_up X 131 (upd (X 131) 9 (-5))) 136 (upd (X 136) j0 (X 136 j0 + 1))) 131 (upd (upd (X 131) 9 (-5)) 14 (X 131 14 + 1))) 131 (upd (upd (upd (X 131) 9 (-5)) 14 (X 131 14 + 1)) 15 (X 131 15 + ql_mem X j0 n / 1000))
def qf_Y (y : Nat → Int32) (n j0 : Nat) : Nat → Int32 := upd (upd (upd (upd y (1216 + 4 * j0 + 0) 4) 9 (-5)) 13 (y 13 + 1)) 14 (y 14 + qz_rec y n (nI j0))
theorem qf_Yo {a : Nat} (h9 : a ≠ 9) (h13 : a ≠ 13) (h14 : a ≠ 14) (h : a ≠ 1216 + 4 * j0 + 0) : qf_Y y n j0 a = y a := by
  unfold qf_Y
  rw [qz_uo h14, qz_uo h13, qz_uo h9, qz_uo h]
theorem qf_L (hL : qL X y n p) (hj : j0 < p) (hst : y (1216 + 4 * j0 + 0) = 3) : qL (qf_X X n j0) (qf_Y y n j0) n p := by
  obtain ⟨hn, hp, hq, ht, hc, hg⟩ := hL
  have r131 : qf_X X n j0 131 = upd (upd (upd (X 131) 9 (-5)) 14 (X 131 14 + 1)) 15 (X 131 15 + ql_mem X j0 n / 1000) := by
    unfold qf_X
    rw [qz_up]
  have r136 : qf_X X n j0 136 = upd (X 136) j0 (X 136 j0 + 1) := by
    unfold qf_X
    rw [qz_un _ _ (by decide), qz_un _ _ (by decide), qz_up]
  have ro : ∀ i : Nat, i ≠ 131 → i ≠ 136 → qf_X X n j0 i = X i := fun i h1 h2 => by
    unfold qf_X
    rw [qz_un _ _ h1, qz_un _ _ h1, qz_un _ _ h2, qz_un _ _ h1]
  have yl : ∀ a : Nat, a < 16 → a ≠ 9 → a ≠ 13 → a ≠ 14 → qf_Y y n j0 a = y a := fun a h1 h2 h3 h4 => qf_Yo h2 h3 h4 (by omega)
  have y9 : qf_Y y n j0 9 = -5 := by
    unfold qf_Y
    rw [qz_uo (by omega), qz_uo (by omega), qz_us]
  have y13 : qf_Y y n j0 13 = y 13 + 1 := by
    unfold qf_Y
    rw [qz_uo (by omega), qz_us]
  have y14 : qf_Y y n j0 14 = y 14 + qz_rec y n (nI j0) := qz_us
  obtain ⟨u, v, u1, v1, e1, e2, e3⟩ := qL_mem hc (g := j0) (by omega) n (Nat.le_refl _)
  have ed : nI (u + 1000 * v) / 1000 = nI v := by
    rw [show (1000 : Int32) = nI 1000 from rfl, pk_div (by omega) (by omega) (by omega)]
    congr 1
    omega
  refine ⟨hn, hp, ?_, ?_, fun i hi => ?_, fun j hj2 => ?_⟩
  · rw [r131, e3, ed]
    obtain ⟨q0, q1, q2, q3, q4, q5, q6, y6, q7, y7, q8, q9, q11, q12, q13, q14, q15, q16, q17, q18⟩ := hq
    unfold qL_q
    simp only [upd, yl, y9, y13, y14, Nat.reduceEqDiff, if_false, if_true, Nat.reduceLT, ne_eq, not_false_eq_true]
    exact ⟨q0, q1, q2, q3, q4, q5, q6, y6, q7, y7, q8, trivial, q11, q12, q13, by rw [q14], by rw [q15, e2], q16, q17, q18⟩
  · intro j h1 h2
    rw [y9] at h2
    exact absurd h2 (qz_5n (by omega))
  · rw [ro 132 (by decide) (by decide), ro 133 (by decide) (by decide), ro 134 (by decide) (by decide), ro 135 (by decide) (by decide)]
    exact qc_c (fun w hw => qf_Yo (by omega) (by omega) (by omega) (by omega)) (hc i hi)
  · rw [r136, ro 137 (by decide) (by decide)]
    by_cases e : j = j0
    · subst e
      rw [qz_us]
      obtain ⟨s, r, s1, s2, s3, e0, e2, ea, eb⟩ := hg j hj2
      have es : s = 3 := by
        rw [hst] at e0
        exact ((nI_eq (a := 3) (by omega) (by omega)).mp e0).symm
      subst es
      refine ⟨4, r, by omega, by omega, s3, ?_, ?_, ?_, fun q => absurd q (by omega)⟩
      · unfold qf_Y
        rw [qz_uo (by omega), qz_uo (by omega), qz_uo (by omega), qz_us]
        rfl
      · rw [qf_Yo (by omega) (by omega) (by omega) (by omega)]; exact e2
      · rw [ea, nI_1]
        congr 1
        omega
    · rw [qz_uo e]
      exact qg_c (fun w hw => qf_Yo (by omega) (by omega) (by omega) (by omega)) (hg j hj2)
set_option maxHeartbeats 1000000 in
/-- one tick -/
theorem qL_tick (h : qz_R Xc y n p f e t 0) (hL : qL X y n p) (hN : 200 ≤ N) : ∃ (r : Int32) (X2 : XT) (y2 : Nat → Int32), f_X8_tickOnce N (m_up Z 1 y) = some (r, m_up Z 1 y2) ∧ (∀ (F : Nat) (v0 v8 v9 : Int32), ¬ v0 ≤ v9 → f_L_ticks_6 N (F + 1) v0 v8 v9 X = f_L_ticks_6 N F v0 (v8 + r) (v9 + 1) X2) ∧ qlo X X2 ∧ qL X2 y2 n p ∧ ∃ a : Nat, a ≤ n ∧ r = nI a := by
  have hL0 := hL
  obtain ⟨hn, hp, hq, ht, hc, hg⟩ := hL
  obtain ⟨q0, q1, q2, q3, q4, q5, q6, y6, q7, y7, q8, q9, _⟩ := hq
  have hwt := qzR_wr h
  have hmo := qzR_s0 h
  have hg8 : y 8 = -5 ∨ ∃ j : Nat, j < p ∧ y 8 = nI j ∧ y (1216 + 4 * j + 0) = 1 := by
    rcases qzR_ga h with q | ⟨j, u1, u2, u3, _⟩
    · exact Or.inl q
    · exact Or.inr ⟨j, by omega, u2, u3⟩
  have hlo : ∀ v : Int32, qlo X (qk_X X v) := fun v => qlo_tr (qlo_up (by omega)) (qlo_up (by omega))
  have r9 : upd (X 131) 0 (X 131 0 + 1) 9 = y 9 := by rw [qz_uo (by decide)]; exact q9
  have r10 : upd (X 131) 0 (X 131 0 + 1) 10 = X 131 10 := qz_uo (by decide)
  unfold f_X8_tickOnce
  rw [qz_rd (v := 0) (w := 0) rfl (by omega), qz_nm, qz_wr (v := 0) (w := 0) rfl (by omega), qz_rd (v := 9) (w := 9) rfl (by omega), qz_uo (show (9 : Nat) ≠ 0 by decide)]
  rcases qzR_wa h with h9 | ⟨j0, hj, h9, hst, _, L, hL1, hL2, hLv⟩
  · have hA := qk_LA hL0 h9 (X 131 10 - 0)
    obtain ⟨X2, y2, a1, a2, a3, a4⟩ := qL_late (Z := Z) 0 hA (Or.inl (by rw [qz_uo (by omega)]; exact h9)) (by
      rcases hg8 with q | ⟨j, u1, u2, u3⟩
      · exact Or.inl (by rw [qz_uo (by omega)]; exact q)
      · exact Or.inr ⟨j, u1, by rw [qz_uo (by omega)]; exact u2, by rw [qz_uo (by omega)]; exact u3⟩) (by rw [qz_uo (by omega)]; exact hwt) (by rw [qz_uo (by omega)]; exact hmo) hN
    refine ⟨0, X2, y2, ?_, fun F v0 v8 v9 hv => ?_, qlo_tr (hlo _) a3, a4, 0, by omega, rfl⟩
    · rw [if_pos h9, h9]
      unfold f_X8_tickOnce_40
      rw [if_pos rfl]
      exact a1
    · rw [f_L_ticks_6, if_neg hv, qy_q (v := 0) (j := 0) rfl (by omega), qz_nm, qy_qw (v := 0) (j := 0) rfl (by omega), qy_q (v := 10) (j := 10) rfl (by omega), qy_q (v := 9) (j := 9) rfl (by omega), qz_up, r9, r10, h9, if_neg (show ¬ (0 : Int32) ≤ -5 by decide), qz_nm, qz_gd (show m_in 10 17 by decide), qz_nm]
      have hX : m_up (m_up X 131 (upd (X 131) 0 (X 131 0 + 1))) 131 (upd (upd (X 131) 0 (X 131 0 + 1)) (Int32.toNatClampNeg 10) (X 131 10 - 0)) = qk_X X (X 131 10 - 0) := rfl
      rw [hX, qy_q (v := 9) (j := 9) rfl (by omega), qk_131, qz_uo (show (9 : Nat) ≠ 10 by decide), r9, h9, if_pos (show (-5 : Int32) < 0 by decide), a2, Int32.add_zero]
  · have hL1' := hL1 (by decide)
    have h95 : ¬ y 9 = -5 := by rw [h9]; exact qz_n5 (by omega)
    have hq10 : X 131 10 = nI L := (ht j0 hj h9).trans hLv
    have em : nI L - 1 = nI (L - 1) := by
      have q := nI_pred (L - 1)
      rwa [show L - 1 + 1 = L by omega] at q
    have hB := qk_LB hL0 h9 hj (nI (L - 1))
    have eY : upd (upd y 0 (y 0 + 1)) (1216 + 4 * j0 + 3) (nI (L - 1)) = upd (upd y 0 (y 0 + 1)) (1216 + 4 * j0 + 3) (nI (L - 1)) := rfl
    have hM0 : (m_bi (f_X8_ofGroup N (nI j0) 3 (m_up Z 1 (upd y 0 (y 0 + 1)))) fun r_59 X_59 => m_nm (r_59 - 1) fun y_61 => m_bv (f_X8_setGroup N (nI j0) 3 y_61 X_59) fun X_63 => f_X8_tickOnce_40 N 0 (nI j0) X_63) = f_X8_tickOnce_40 N 0 (nI j0) (m_up Z 1 (upd (upd y 0 (y 0 + 1)) (1216 + 4 * j0 + 3) (nI (L - 1)))) := by
      rw [qz_ofG (v := 3) (w := 3) rfl (by omega) (by omega), qz_bi, qz_uo (by omega), hLv, qz_nm, em, qz_setG (v := 3) (w := 3) rfl (by omega) (by omega), qz_bv]
    rw [if_neg h95, h9, hM0]
    unfold f_X8_tickOnce_40
    rw [if_neg (qz_n5 (by omega)), qz_ofG (v := 3) (w := 3) rfl (by omega) (by omega), qz_bi, qz_us]
    have hpre : ∀ (F : Nat) (v0 v8 v9 : Int32), ¬ v0 ≤ v9 → f_L_ticks_6 N (F + 1) v0 v8 v9 X = if nI (L - 1) = 0 then (m_gd (m_in 9 17) <| m_nm (qk_X X (nI (L - 1)) 131 (Int32.toNatClampNeg 9)) fun y_62 => m_gd (m_in 9 17) <| m_nm (m_up (qk_X X (nI (L - 1))) 131 (upd (qk_X X (nI (L - 1)) 131) (Int32.toNatClampNeg 9) (-5))) fun X_65 => m_gd (m_in y_62 48) <| m_nm (X_65 136 (Int32.toNatClampNeg y_62)) fun y_68 => m_nm (y_68 + 1) fun y_71 => m_gd (m_in y_62 48) <| m_nm (m_up X_65 136 (upd (X_65 136) (Int32.toNatClampNeg y_62) y_71)) fun X_73 => m_gd (m_in 14 17) <| m_nm (X_73 131 (Int32.toNatClampNeg 14)) fun y_76 => m_nm (y_76 + 1) fun y_79 => m_gd (m_in 14 17) <| m_nm (m_up X_73 131 (upd (X_73 131) (Int32.toNatClampNeg 14) y_79)) fun X_81 => m_gd (m_in 15 17) <| m_nm (X_81 131 (Int32.toNatClampNeg 15)) fun y_84 => m_bi (f_L_members N y_62 X_81) fun r_87 X_87 => m_nm (r_87 / 1000) fun y_89 => m_nm (y_84 + y_89) fun y_91 => m_gd (m_in 15 17) <| m_nm (m_up X_87 131 (upd (X_87 131) (Int32.toNatClampNeg 15) y_91)) fun X_93 => f_L_ticks_104 N (f_L_ticks_6 N F) N v0 v8 v9 y_62 0 X_93) else (f_L_ticks_182 N (f_L_ticks_6 N F) v0 v8 v9 (qk_X X (nI (L - 1)))) := by
      intro F v0 v8 v9 hv
      have hX : m_up (m_up X 131 (upd (X 131) 0 (X 131 0 + 1))) 131 (upd (upd (X 131) 0 (X 131 0 + 1)) (Int32.toNatClampNeg 10) (nI (L - 1))) = qk_X X (nI (L - 1)) := rfl
      rw [f_L_ticks_6, if_neg hv, qy_q (v := 0) (j := 0) rfl (by omega), qz_nm, qy_qw (v := 0) (j := 0) rfl (by omega), qy_q (v := 10) (j := 10) rfl (by omega), qy_q (v := 9) (j := 9) rfl (by omega), qz_up, r9, r10, h9, if_pos (nI_pos' (by omega)), hq10, em, qz_nm, qz_gd (show m_in 10 17 by decide), qz_nm, hX, qy_q (v := 9) (j := 9) rfl (by omega), qy_q (v := 10) (j := 10) rfl (by omega), qk_131, qz_uo (show (9 : Nat) ≠ 10 by decide), r9, h9, if_neg (nI_pos (by omega)), qz_us]
    have y9B : upd (upd y 0 (y 0 + 1)) (1216 + 4 * j0 + 3) (nI (L - 1)) 9 = nI j0 := by rw [qz_uo (by omega), qz_uo (by omega)]; exact h9
    have stB : upd (upd y 0 (y 0 + 1)) (1216 + 4 * j0 + 3) (nI (L - 1)) (1216 + 4 * j0 + 0) = 3 := by rw [qz_uo (by omega), qz_uo (by omega)]; exact hst
    have lowB : ∀ a : Nat, a < 16 → a ≠ 0 → upd (upd y 0 (y 0 + 1)) (1216 + 4 * j0 + 3) (nI (L - 1)) a = y a := fun a g1 g2 => by rw [qz_uo (by omega), qz_uo g2]
    have grpB : ∀ j : Nat, upd (upd y 0 (y 0 + 1)) (1216 + 4 * j0 + 3) (nI (L - 1)) (1216 + 4 * j + 0) = y (1216 + 4 * j + 0) := fun j => by rw [qz_uo (by omega), qz_uo (by omega)]
    generalize hyB : upd (upd y 0 (y 0 + 1)) (1216 + 4 * j0 + 3) (nI (L - 1)) = yB at hB y9B stB lowB grpB ⊢
    by_cases hl : L = 1
    · have e0 : nI (L - 1) = 0 := by rw [hl]; rfl
      rw [if_pos e0, qz_setG (v := 0) (w := 0) rfl (by omega) (by omega), qz_bv, qz_wr (v := 9) (w := 9) rfl (by omega), qz_rd (v := 13) (w := 13) rfl (by omega), qz_nm, qz_wr (v := 13) (w := 13) rfl (by omega), qz_rd (v := 14) (w := 14) rfl (by omega)]
      have hF := qf_L (j0 := j0) hB hj stB
      have hF0 := hF
      have f6 : upd (upd (upd yB (1216 + 4 * j0 + 0) 4) 9 (-5)) 13 (upd (upd yB (1216 + 4 * j0 + 0) 4) 9 (-5) 13 + 1) 6 = nI n := by rw [qz_uo (by omega), qz_uo (by omega), qz_uo (by omega), lowB 6 (by omega) (by omega)]; exact y6
      have frec : qz_rec (upd (upd (upd yB (1216 + 4 * j0 + 0) 4) 9 (-5)) 13 (upd (upd yB (1216 + 4 * j0 + 0) 4) 9 (-5) 13 + 1)) n (nI j0) = qz_rec yB n (nI j0) := qz_sum_c n (fun k hk => by
        have hk1 : k < 48 := by omega
        simp only [qz_mb]
        rw [qz_uo (show 16 + 8 * k + 6 ≠ 13 by omega), qz_uo (show 16 + 8 * k + 7 ≠ 13 by omega), qz_uo (show 16 + 8 * k + 1 ≠ 13 by omega), qz_uo (show 16 + 8 * k + 6 ≠ 9 by omega), qz_uo (show 16 + 8 * k + 7 ≠ 9 by omega), qz_uo (show 16 + 8 * k + 1 ≠ 9 by omega), qz_uo (show 16 + 8 * k + 6 ≠ 1216 + 4 * j0 + 0 by omega), qz_uo (show 16 + 8 * k + 7 ≠ 1216 + 4 * j0 + 0 by omega), qz_uo (show 16 + 8 * k + 1 ≠ 1216 + 4 * j0 + 0 by omega)])
      rw [qz_records f6 (by omega) hN, qz_bi, frec, qz_nm, qz_wr (v := 14) (w := 14) rfl (by omega)]
      have hY : upd (upd (upd (upd yB (1216 + 4 * j0 + 0) 4) 9 (-5)) 13 (upd (upd yB (1216 + 4 * j0 + 0) 4) 9 (-5) 13 + 1)) 14 (upd (upd (upd yB (1216 + 4 * j0 + 0) 4) 9 (-5)) 13 (upd (upd yB (1216 + 4 * j0 + 0) 4) 9 (-5) 13 + 1) 14 + qz_rec yB n (nI j0)) = qf_Y yB n j0 := by
        unfold qf_Y
        rw [qz_uo (show (13 : Nat) ≠ 9 by decide), qz_uo (show 13 ≠ 1216 + 4 * j0 + 0 by omega), qz_uo (show (14 : Nat) ≠ 13 by decide), qz_uo (show (14 : Nat) ≠ 9 by decide), qz_uo (show 14 ≠ 1216 + 4 * j0 + 0 by omega)]
      rw [hY, qz_answerAll (n := n) hF0.2.2.1.2.2.2.2.2.2.2.1 (by omega) hN, qz_bi]
      show ∃ (r : Int32) (X2 : XT) (y2 : Nat → Int32), f_X8_tickOnce_103 N (qz_sum (fun i => if qz_C (qf_Y yB n j0) (nI j0) i then 1 else 0) n) (m_up Z 1 (qa_R (qf_Y yB n j0) (nI j0) n)) = some (r, m_up Z 1 y2) ∧ _
      obtain ⟨XA, z1, z2, z3⟩ := qa_loop (n := n) (p := p) (y := qf_Y yB n j0) (g := j0) (by omega) hN n 0 (qf_X (qk_X X (nI (L - 1))) n j0) (by omega) (by rw [qa_R0]; exact hF)
      have lowA : ∀ a : Nat, a < 16 → a ≠ 0 → a ≠ 9 → a ≠ 10 → a ≠ 13 → a ≠ 14 → a ≠ 15 → qa_R (qf_Y yB n j0) (nI j0) n a = y a := fun a g1 g2 g3 g4 g5 g6 g7 => by
        unfold qa_R
        rw [qz_uo g4, qz_an_o ⟨g7, Or.inl g1⟩, qf_Yo g3 g5 g6 (by omega)]
        exact lowB a g1 g2
      have r9A : qa_R (qf_Y yB n j0) (nI j0) n 9 = -5 := by
        unfold qa_R
        rw [qz_uo (by omega), qz_an_o ⟨by omega, Or.inl (by omega)⟩]
        unfold qf_Y
        rw [qz_uo (by omega), qz_uo (by omega), qz_us]
      have g8A : qa_R (qf_Y yB n j0) (nI j0) n 8 = -5 ∨ ∃ j : Nat, j < p ∧ qa_R (qf_Y yB n j0) (nI j0) n 8 = nI j ∧ qa_R (qf_Y yB n j0) (nI j0) n (1216 + 4 * j + 0) = 1 := by
        rw [lowA 8 (by omega) (by omega) (by omega) (by omega) (by omega) (by omega) (by omega)]
        rcases hg8 with q | ⟨j, v1, v2, v3⟩
        · exact Or.inl q
        · refine Or.inr ⟨j, v1, v2, ?_⟩
          have hne : j ≠ j0 := by
            intro q
            rw [q, hst] at v3
            exact absurd v3 (by decide)
          unfold qa_R
          rw [qz_uo (by omega), qz_an_g n (by omega), qf_Yo (by omega) (by omega) (by omega) (by omega)]
          exact (grpB j).trans v3
      obtain ⟨X2, y2, a1, a2, a3, a4⟩ := qL_late (Z := Z) (qz_sum (fun i => if qz_C (qf_Y yB n j0) (nI j0) i then 1 else 0) n) z3 (Or.inl r9A) g8A (by rw [lowA 1 (by omega) (by omega) (by omega) (by omega) (by omega) (by omega) (by omega)]; exact hwt) (by rw [lowA 2 (by omega) (by omega) (by omega) (by omega) (by omega) (by omega) (by omega)]; exact hmo) hN
      refine ⟨_, X2, y2, a1, fun F v0 v8 v9 hv => ?_, ?_, a4, qs_01 (fun i => qz_C (qf_Y yB n j0) (nI j0) i) n⟩
      · have z1' := z1 (f_L_ticks_6 N F) v0 v8 v9 N (by omega)
        have e00 : qz_sum (fun i => if qz_C (qf_Y yB n j0) (nI j0) i then (1 : Int32) else 0) 0 = 0 := rfl
        rw [e00, Int32.add_zero, nI_0, a2] at z1'
        have hB131 : qk_X X (nI (L - 1)) 131 9 = nI j0 := hB.2.2.1.2.2.2.2.2.2.2.2.2.2.2.1.trans y9B
        have hB6 : qk_X X (nI (L - 1)) 131 6 = nI n := hB.2.2.1.2.2.2.2.2.2.1
        rw [hpre F v0 v8 v9 hv, if_pos e0, ← z1']
        generalize qk_X X (nI (L - 1)) = XB at hB131 hB6 ⊢
        rw [qy_q (v := 9) (j := 9) rfl (by omega), hB131, qy_qw (v := 9) (j := 9) rfl (by omega), qy_r rfl (show j0 < 48 by omega), qz_un _ _ (show (136 : Nat) ≠ 131 by decide), qz_nm, qz_gd (qz_in (show j0 < 48 by omega) (by omega)), nI_clamp (by omega), qz_nm, qy_q (v := 14) (j := 14) rfl (by omega), qz_un _ _ (show (131 : Nat) ≠ 136 by decide), qz_up, qz_nm, qz_uo (show (14 : Nat) ≠ 9 by decide), qz_gd (show m_in 14 17 by decide), qz_nm, qy_q (v := 15) (j := 15) rfl (by omega), qz_up]
        have s15 : upd (upd (XB 131) 9 (-5)) (Int32.toNatClampNeg 14) (XB 131 14 + 1) 15 = XB 131 15 := by
          rw [qz_uo (show (15 : Nat) ≠ Int32.toNatClampNeg 14 by decide), qz_uo (by decide)]
        have s6 : upd (upd (XB 131) 9 (-5)) (Int32.toNatClampNeg 14) (XB 131 14 + 1) 6 = nI n := by
          rw [qz_uo (show (6 : Nat) ≠ Int32.toNatClampNeg 14 by decide), qz_uo (by decide)]; exact hB6
        rw [s15, qy_members (n := n) (by rw [qz_up]; exact s6) (by omega) hN, qz_bi, qz_nm, qz_nm, qz_gd (show m_in 15 17 by decide), qz_nm, ql_mem_c (X := XB) (by rw [qz_un _ _ (by decide), qz_un _ _ (by decide), qz_un _ _ (by decide)]) (by rw [qz_un _ _ (by decide), qz_un _ _ (by decide), qz_un _ _ (by decide)])]
        rfl
      · refine qlo_tr (qlo_tr (hlo (nI (L - 1))) (qlo_tr ?_ z2)) a3
        exact qlo_tr (qlo_tr (qlo_tr (qlo_up (by omega)) (qlo_up (by omega))) (qlo_up (by omega))) (qlo_up (by omega))
    · have e0 : ¬ nI (L - 1) = 0 := nI_ne0 (by omega) (by omega)
      rw [if_neg e0]
      obtain ⟨X2, y2, a1, a2, a3, a4⟩ := qL_late (Z := Z) 0 hB (Or.inr ⟨j0, hj, y9B⟩) (by
        rcases hg8 with q | ⟨j, u1, u2, u3⟩
        · exact Or.inl (by rw [lowB 8 (by omega) (by omega)]; exact q)
        · exact Or.inr ⟨j, u1, by rw [lowB 8 (by omega) (by omega)]; exact u2, by rw [grpB]; exact u3⟩) (by rw [lowB 1 (by omega) (by omega)]; exact hwt) (by rw [lowB 2 (by omega) (by omega)]; exact hmo) hN
      refine ⟨0, X2, y2, a1, fun F v0 v8 v9 hv => ?_, qlo_tr (hlo _) a3, a4, 0, by omega, rfl⟩
      rw [hpre F v0 v8 v9 hv, if_neg e0, a2, Int32.add_zero]
theorem qm_inj {r r2 : Int32} {a b : Nat → Int32} (h : some (r, m_up Z 1 a) = some (r2, m_up Z 1 b)) : r = r2 ∧ a = b := by
  have h1 := Option.some.inj h
  have h2 := congrArg Prod.snd h1
  have h3 := congrFun h2 1
  have h4 : m_up Z 1 a 1 = m_up Z 1 b 1 := h3
  rw [qz_up, qz_up] at h4
  exact ⟨congrArg Prod.fst h1, h4⟩
theorem qL_np {n2 p2 b : Nat} (h : qz_R Xc y n2 p2 f e t b) (hL : qL X y n p) : n2 = n ∧ p2 = p := by
  obtain ⟨hn, hp, hq, _⟩ := hL
  have a1 := qzR_nn h
  have a2 := (qzR_pn h).1
  have e1 : nI n2 = nI n := (qzR_ny h).symm.trans hq.2.2.2.2.2.2.2.1
  have e2 : nI p2 = nI p := (qzR_py h).symm.trans hq.2.2.2.2.2.2.2.2.2.1
  exact ⟨(nI_eq (by omega) (by omega)).mp e1, (nI_eq (by omega) (by omega)).mp e2⟩
theorem qL_ticks {m : Nat} (hm : m ≤ 99) (hN : 200 ≤ N) : ∀ (d fuel k T v : Nat) (Xc X : XT) (y : Nat → Int32), k + d = m → d < fuel → T + d < 2 ^ 28 → v ≤ 46 * k → qz_S T Xc y → qL X y n p → ∃ (r : Nat) (X2 : XT) (y2 : Nat → Int32), f_X8_ticks_4 N fuel (nI m) (nI v) (nI k) (m_up Z 1 y) = some (nI r, m_up Z 1 y2) ∧ f_L_ticks_6 N fuel (nI m) (nI v) (nI k) X = some (nI r, X2) ∧ qlo X X2 ∧ qL X2 y2 n p ∧ r ≤ 46 * m := by
  intro d
  induction d with
  | zero =>
    intro fuel k T v Xc X y hk hF _ hv _ hL
    obtain ⟨F, rfl⟩ : ∃ F, fuel = F + 1 := ⟨fuel - 1, by omega⟩
    rw [f_X8_ticks_4, f_L_ticks_6, if_pos (nI_le (by omega) (by omega)), if_pos (nI_le (by omega) (by omega))]
    exact ⟨v, X, y, rfl, rfl, qlo_rf, hL, by rw [← hk]; omega⟩
  | succ d ih =>
    intro fuel k T v Xc X y hk hF hT hv hS hL
    obtain ⟨F, rfl⟩ : ∃ F, fuel = F + 1 := ⟨fuel - 1, by omega⟩
    obtain ⟨n2, p2, f, e, t, h, hfe, htT⟩ := hS
    obtain ⟨en, ep⟩ := qL_np h hL
    subst en
    subst ep
    obtain ⟨r, X2c, y2, f2, e2, _, a2, a3, _, a5, _⟩ := qz_tick (Z := Z) h (by omega) hN
    have hn := hL.1
    obtain ⟨r', X2, y2', b1, b2, b3, b4, ra, hra, era⟩ := qL_tick (Z := Z) h hL hN
    obtain ⟨er, ey⟩ := qm_inj (a2.symm.trans b1)
    subst er
    subst ey
    subst era
    have hlt : ¬ nI m ≤ nI k := nI_ge (by omega) (by omega)
    obtain ⟨r3, X3, y3, c1, c2, c3, c4, c5⟩ := ih F (k + 1) (T + 1) (v + ra) X2c X2 y2 (by omega) (by omega) (by omega) (by omega) ⟨n2, p2, f2, e2, t + 1, a3, a5, by omega⟩ b4
    refine ⟨r3, X3, y3, ?_, ?_, qlo_tr b3 c3, c4, c5⟩
    · rw [f_X8_ticks_4, if_neg hlt, a2, qz_bi, qz_nm, qz_nm, nI_1, nI_add]
      exact c1
    · rw [b2 F _ _ _ hlt, nI_1, nI_add]
      exact c2
end QL8
