-- a commit is entered: the law's submits beside the model's doesSubmit
section QL4
variable {N n p g k j j0 r c : Nat} {X X2 Z : XT} {y y2 : Nat → Int32} {u : Int32}
/-- what the law does behind an entry -/
def ql_tail (N : Nat) (v2 v10 : Int32) (X : XT) : Option (Int32 × XT) := if v2 = 0 then (m_gd (m_in 8 17) <| m_nm (X 131 (Int32.toNatClampNeg 8)) fun y_57 => m_bi (f_L_members N y_57 X) fun r_60 X_60 => m_nm (r_60 / 1000) fun y_62 => m_gd (m_in 3 17) <| m_nm (X_60 131 (Int32.toNatClampNeg 3)) fun y_64 => if y_62 < y_64 then (m_gd (m_in 8 17) <| m_nm (X_60 131 (Int32.toNatClampNeg 8)) fun y_70 => m_gd (m_in y_70 48) <| m_nm (X_60 137 (Int32.toNatClampNeg y_70)) fun y_73 => m_gd (m_in 0 17) <| m_nm (X_60 131 (Int32.toNatClampNeg 0)) fun y_76 => if y_76 < y_73 then (f_L_submits_177 N v10 0 X_60) else (f_L_submits_177 N v10 3 X_60)) else (f_L_submits_177 N v10 2 X_60)) else (f_L_submits_177 N v10 1 X)
theorem qL_tail {v : Nat} (hL : qL X y n p) (h8 : y 8 = nI j0) (hj : j0 < p) (hst : y (1216 + 4 * j0 + 0) = 1) (h9 : y 9 = -5 ∨ ∃ j : Nat, j < p ∧ y 9 = nI j) (h1 : ∃ w : Nat, w ≤ 20 ∧ y 1 = nI w) (h2 : ∃ a : Nat, a ≤ 20 ∧ y 2 = nI a) (hN : 200 ≤ N) : ∃ (X3 : XT) (y3 : Nat → Int32), qz_tailM N v j0 u (m_up Z 1 y) = some (nI v, m_up Z 1 y3) ∧ ql_tail N u (nI v) X = some (nI v, X3) ∧ qlo X X3 ∧ qL X3 y3 n p := by
  have hL0 := hL
  obtain ⟨hn, hp, hq, ht, hc, hg⟩ := hL
  obtain ⟨q0, q1, q2, q3, q4, q5, q6, y6, q7, y7, q8, q9, _⟩ := hq
  have hclose : ∀ r : Nat, 1 ≤ r → r ≤ 3 → ∃ (X3 : XT) (y3 : Nat → Int32), f_X8_doesSubmit_168 N (nI v) (nI r) (m_up Z 1 y) = some (nI v, m_up Z 1 y3) ∧ f_L_submits_177 N (nI v) (nI r) X = some (nI v, X3) ∧ qlo X X3 ∧ qL X3 y3 n p := by
    intro r hr1 hr3
    obtain ⟨X3, y3, c1, c2, c3, c4, _⟩ := qL_closes (Z := Z) hL0 h9 h8 hj h1 h2 hr3 hN
    refine ⟨X3, y3, ?_, ?_, c3, c4⟩
    · unfold f_X8_doesSubmit_168
      rw [if_neg (nI_nle (by omega) (by omega)), c1, qz_bv]
    · unfold f_L_submits_177
      rw [if_neg (nI_nle (by omega) (by omega)), c2, qz_bv]
  obtain ⟨s, rr, s1, s2, s3, e0, e2, ea, eb⟩ := hg j0 hj
  have es : s = 1 := by
    rw [hst] at e0
    exact ((nI_eq (a := 1) (by omega) (by omega)).mp e0).symm
  have he : X 137 j0 = y (1216 + 4 * j0 + 1) := (eb es).2
  unfold qz_tailM ql_tail
  by_cases hu0 : u = 0
  · obtain ⟨a, b, a1, b1, m1, m2, m3⟩ := qL_mem hc (g := j0) (by omega) n (Nat.le_refl _)
    have ed : nI (a + 1000 * b) / 1000 = nI b := by
      rw [show (1000 : Int32) = nI 1000 from rfl, pk_div (by omega) (by omega) (by omega)]
      congr 1
      omega
    rw [if_pos hu0, if_pos hu0, qz_records y6 (by omega) hN, qz_bi, qz_rd (v := 3) (w := 3) rfl (by omega), qy_q (v := 8) (j := 8) rfl (by omega), q8, h8, qy_members q6 (by omega) hN, qz_bi, m3, ed, qz_nm, qy_q (v := 3) (j := 3) rfl (by omega), q3, m2]
    by_cases hf : nI b < y 3
    · rw [if_pos hf, if_pos hf]
      unfold f_X8_isLate
      rw [qz_rd (v := 8) (w := 8) rfl (by omega), if_neg (show ¬ y 8 = -5 by rw [h8]; exact qz_n5 (by omega)), qz_rd (v := 8) (w := 8) rfl (by omega), h8, qz_ofG (v := 1) (w := 1) rfl (by omega) (by omega), qz_bi (y (1216 + 4 * j0 + 1)), qz_rd (v := 0) (w := 0) rfl (by omega), qy_q (v := 8) (j := 8) rfl (by omega), q8, h8, qy_r rfl (show j0 < 48 by omega), he, qy_q (v := 0) (j := 0) rfl (by omega), q0]
      by_cases hlt : y 0 < y (1216 + 4 * j0 + 1)
      · rw [if_pos hlt, if_pos hlt, qz_bi, if_pos rfl]
        unfold f_X8_doesSubmit_168 f_L_submits_177
        rw [if_pos (by decide), if_pos (by decide)]
        exact ⟨X, y, rfl, rfl, qlo_rf, hL0⟩
      · rw [if_neg hlt, if_neg hlt, qz_bi, if_neg (by decide)]
        exact hclose 3 (by omega) (by omega)
    · rw [if_neg hf, if_neg hf]
      exact hclose 2 (by omega) (by omega)
  · rw [if_neg hu0, if_neg hu0]
    exact hclose 1 (by omega) (by omega)
-- the entry itself
def qs_A (X : XT) (n c r j0 u : Nat) : XT := m_up (m_up (m_up (m_up (m_up X 131 (upd (X 131) 6 (nI (n + 1)))) 132 (upd (X 132) n (nI (c + 16 * r + 256 * u + 512 * 1)))) 133 (upd (X 133) n (X 131 0))) 134 (upd (X 134) n (-5))) 135 (upd (X 135) n (nI (2 * j0)))
theorem qs_AL {uu : Nat} (hL : qL X y n p) (hn : n ≤ 45) (hj : j0 < p) (hc : c < 12) (hr : r ≤ 8) (hu : uu ≤ 1) : qL (qs_A X n c r j0 uu) (qz_addY y n j0 (nI c) (nI r) (nI uu)) (n + 1) p := by
  obtain ⟨hn0, hp, hq, ht, hcc, hg⟩ := hL
  have r131 : qs_A X n c r j0 uu 131 = upd (X 131) 6 (nI (n + 1)) := by
    unfold qs_A
    rw [qz_un _ _ (by decide), qz_un _ _ (by decide), qz_un _ _ (by decide), qz_un _ _ (by decide), qz_up]
  have r132 : qs_A X n c r j0 uu 132 = upd (X 132) n (nI (c + 16 * r + 256 * uu + 512 * 1)) := by
    unfold qs_A
    rw [qz_un _ _ (by decide), qz_un _ _ (by decide), qz_un _ _ (by decide), qz_up]
  have r133 : qs_A X n c r j0 uu 133 = upd (X 133) n (X 131 0) := by
    unfold qs_A
    rw [qz_un _ _ (by decide), qz_un _ _ (by decide), qz_up]
  have r134 : qs_A X n c r j0 uu 134 = upd (X 134) n (-5) := by
    unfold qs_A
    rw [qz_un _ _ (by decide), qz_up]
  have r135 : qs_A X n c r j0 uu 135 = upd (X 135) n (nI (2 * j0)) := by
    unfold qs_A
    rw [qz_up]
  have ro : ∀ i : Nat, 136 ≤ i → qs_A X n c r j0 uu i = X i := fun i hi => by
    unfold qs_A
    rw [qz_un _ _ (by omega), qz_un _ _ (by omega), qz_un _ _ (by omega), qz_un _ _ (by omega), qz_un _ _ (by omega)]
  have yl : ∀ a : Nat, a < 16 → a ≠ 6 → qz_addY y n j0 (nI c) (nI r) (nI uu) a = y a := fun a h1 h2 => qz_addY_o h2 (by omega)
  have y6' : qz_addY y n j0 (nI c) (nI r) (nI uu) 6 = nI (n + 1) := qz_addY_6
  refine ⟨by omega, hp, ?_, ?_, fun k hk => ?_, fun j hj2 => ?_⟩
  · obtain ⟨q0, q1, q2, q3, q4, q5, q6, y6, q7, y7, q8, q9, q11, q12, q13, q14, q15, q16, q17, q18⟩ := hq
    rw [r131]
    unfold qL_q
    simp only [upd, yl, y6', Nat.reduceEqDiff, if_false, if_true, Nat.reduceLT, ne_eq, not_false_eq_true]
    exact ⟨q0, q1, q2, q3, q4, q5, trivial, trivial, q7, y7, q8, q9, q11, q12, q13, q14, q15, q16, q17, q18⟩
  · intro j h1 h2
    rw [yl 9 (by omega) (by omega)] at h2
    rw [r131, qz_uo (by omega), qz_addY_o (by omega) (by omega)]
    exact ht j h1 h2
  · rw [r132, r133, r134, r135]
    by_cases e : k = n
    · subst e
      rw [qz_us, qz_us, qz_us, qz_us]
      refine ⟨c, r, uu, 1, j0, 1, hc, hr, hu, by omega, by omega, by omega, ?_, ?_, ?_, ?_, ?_, ?_, rfl, ?_, ?_, ?_⟩
      · exact qz_addY_n 0 (by omega)
      · exact qz_addY_n 1 (by omega)
      · exact qz_addY_n 2 (by omega)
      · exact qz_addY_n 3 (by omega)
      · exact qz_addY_n 6 (by omega)
      · exact qz_addY_n 7 (by omega)
      · exact hq.1.trans (qz_addY_n (y := y) (n := k) (j0 := j0) (u := nI uu) (v1 := nI c) (v2 := nI r) 4 (by omega)).symm
      · exact (qz_addY_n (y := y) (n := k) (j0 := j0) (u := nI uu) (v1 := nI c) (v2 := nI r) 5 (by omega)).symm
      · congr 1
    · rw [qz_uo e, qz_uo e, qz_uo e, qz_uo e]
      exact qc_c (fun w hw => qz_addY_o (by omega) (by omega)) (hcc k (by omega))
  · rw [ro 136 (by omega), ro 137 (by omega)]
    exact qg_c (fun w hw => qz_addY_o (by omega) (by omega)) (hg j hj2)
def qs_B (X : XT) (p : Nat) : XT := m_up (m_up (m_up (m_up X 131 (upd (X 131) 8 (nI p))) 136 (upd (X 136) p 1)) 137 (upd (X 137) p (X 131 0 + X 131 1))) 131 (upd (upd (X 131) 8 (nI p)) 7 (nI (p + 1)))
theorem qs_BL (hL : qL X y n p) (hp2 : p ≤ 45) (h9 : y 9 = -5 ∨ ∃ j : Nat, j < p ∧ y 9 = nI j) (hz : y (1216 + 4 * p + 2) = 0) : qL (qs_B X p) (qz_begY y p) n (p + 1) := by
  obtain ⟨hn0, hp, hq, ht, hcc, hg⟩ := hL
  have r131 : qs_B X p 131 = upd (upd (X 131) 8 (nI p)) 7 (nI (p + 1)) := by
    unfold qs_B
    rw [qz_up]
  have r136 : qs_B X p 136 = upd (X 136) p 1 := by
    unfold qs_B
    rw [qz_un _ _ (by decide), qz_un _ _ (by decide), qz_up]
  have r137 : qs_B X p 137 = upd (X 137) p (X 131 0 + X 131 1) := by
    unfold qs_B
    rw [qz_un _ _ (by decide), qz_up]
  have ro : ∀ i : Nat, i ≠ 131 → i ≠ 136 → i ≠ 137 → qs_B X p i = X i := fun i h1 h2 h3 => by
    unfold qs_B
    rw [qz_un _ _ h1, qz_un _ _ h3, qz_un _ _ h2, qz_un _ _ h1]
  have yl : ∀ a : Nat, a < 16 → a ≠ 7 → a ≠ 8 → qz_begY y p a = y a := fun a h1 h2 h3 => qz_begY_o h2 h3 (by omega) (by omega)
  have y7' : qz_begY y p 7 = nI (p + 1) := by
    unfold qz_begY
    rw [qz_uo (by omega), qz_uo (by omega), qz_uo (by omega), qz_us]
  have y8' : qz_begY y p 8 = nI p := by
    unfold qz_begY
    rw [qz_uo (by omega), qz_uo (by omega), qz_us]
  refine ⟨hn0, by omega, ?_, ?_, fun k hk => ?_, fun j hj2 => ?_⟩
  · obtain ⟨q0, q1, q2, q3, q4, q5, q6, y6, q7, y7, q8, q9, q11, q12, q13, q14, q15, q16, q17, q18⟩ := hq
    rw [r131]
    unfold qL_q
    simp only [upd, yl, y7', y8', Nat.reduceEqDiff, if_false, if_true, Nat.reduceLT, ne_eq, not_false_eq_true]
    exact ⟨q0, q1, q2, q3, q4, q5, q6, y6, trivial, trivial, trivial, q9, q11, q12, q13, q14, q15, q16, q17, q18⟩
  · intro j h1 h2
    rw [yl 9 (by omega) (by omega) (by omega)] at h2
    have hjp : j < p := by
      rcases h9 with q | ⟨j2, q1, q2⟩
      · exact absurd (h2.symm.trans q) (qz_n5 (by omega))
      · rw [q2, nI_eq (by omega) (by omega)] at h2
        omega
    rw [r131, qz_uo (by omega), qz_uo (by omega), qz_begY_o (by omega) (by omega) (by omega) (by omega)]
    exact ht j hjp h2
  · rw [ro 132 (by decide) (by decide) (by decide), ro 133 (by decide) (by decide) (by decide), ro 134 (by decide) (by decide) (by decide), ro 135 (by decide) (by decide) (by decide)]
    exact qc_c (fun w hw => qz_begY_o (by omega) (by omega) (by omega) (by omega)) (hcc k hk)
  · rw [r136, r137]
    by_cases e : j = p
    · subst e
      rw [qz_us, qz_us]
      refine ⟨1, 0, by omega, by omega, by omega, ?_, ?_, rfl, fun _ => ⟨rfl, ?_⟩⟩
      · unfold qz_begY
        rw [qz_uo (by omega), qz_us]
        rfl
      · rw [qz_begY_o (by omega) (by omega) (by omega) (by omega)]; exact hz
      · unfold qz_begY
        rw [qz_us, hq.1, hq.2.1]
    · rw [qz_uo e, qz_uo e]
      exact qg_c (fun w hw => qz_begY_o (by omega) (by omega) (by omega) (by omega)) (hg j (by omega))
theorem qs_58 {uu : Nat} (hL : qL X y n p) (hn : n ≤ 45) (h8 : y 8 = nI j0) (hj : j0 < p) (hu : uu ≤ 1) : f_L_submits_58 N (nI c) (nI r) (nI uu) X = ql_tail N (nI uu) (nI n) (qs_A X n c r j0 uu) := by
  obtain ⟨hn0, hp, hq, ht, hcc, hg⟩ := hL
  obtain ⟨q0, q1, q2, q3, q4, q5, q6, y6, q7, y7, q8, q9, _⟩ := hq
  have key : ∀ f : Nat, (f = 256 * uu) → f_L_submits_93 N (nI uu) (nI n) (nI f) (nI c + 16 * nI r) (nI n) (m_up X 131 (upd (X 131) 6 (nI (n + 1)))) = ql_tail N (nI uu) (nI n) (qs_A X n c r j0 uu) := by
    intro f hf
    have e1 : nI c + 16 * nI r + nI f + 512 = nI (c + 16 * r + 256 * uu + 512 * 1) := by
      rw [show (16 : Int32) = nI 16 from rfl, pk_mul, show (512 : Int32) = nI 512 from rfl, nI_add, nI_add, nI_add, hf]
    unfold f_L_submits_93
    rw [qz_nm, qz_nm, e1, qy_rw rfl (show n < 48 by omega), qy_q (v := 0) (j := 0) rfl (by omega), qy_rw rfl (show n < 48 by omega), qy_rw rfl (show n < 48 by omega), qy_q (v := 8) (j := 8) rfl (by omega), qz_nm, qy_rw rfl (show n < 48 by omega)]
    have s0 : m_up (m_up X 131 (upd (X 131) 6 (nI (n + 1)))) 132 (upd (m_up X 131 (upd (X 131) 6 (nI (n + 1))) 132) n (nI (c + 16 * r + 256 * uu + 512 * 1))) 131 0 = X 131 0 := by
      rw [qz_un _ _ (by decide), qz_up, qz_uo (by decide)]
    rw [s0]
    have s8 : m_up (m_up (m_up (m_up X 131 (upd (X 131) 6 (nI (n + 1)))) 132 (upd (m_up X 131 (upd (X 131) 6 (nI (n + 1))) 132) n (nI (c + 16 * r + 256 * uu + 512 * 1)))) 133 (upd (m_up (m_up X 131 (upd (X 131) 6 (nI (n + 1)))) 132 (upd (m_up X 131 (upd (X 131) 6 (nI (n + 1))) 132) n (nI (c + 16 * r + 256 * uu + 512 * 1))) 133) n (X 131 0))) 134 (upd (m_up (m_up (m_up X 131 (upd (X 131) 6 (nI (n + 1)))) 132 (upd (m_up X 131 (upd (X 131) 6 (nI (n + 1))) 132) n (nI (c + 16 * r + 256 * uu + 512 * 1)))) 133 (upd (m_up (m_up X 131 (upd (X 131) 6 (nI (n + 1)))) 132 (upd (m_up X 131 (upd (X 131) 6 (nI (n + 1))) 132) n (nI (c + 16 * r + 256 * uu + 512 * 1))) 133) n (X 131 0)) 134) n (-5)) 131 8 = nI j0 := by
      rw [qz_un _ _ (by decide), qz_un _ _ (by decide), qz_un _ _ (by decide), qz_up, qz_uo (by decide), q8]
      exact h8
    rw [s8, qy_2]
    rfl
  unfold f_L_submits_58
  rw [qy_q (v := 6) (j := 6) rfl (by omega), qy_q (v := 6) (j := 6) rfl (by omega), q6, qz_nm, nI_1, qy_qw (v := 6) (j := 6) rfl (by omega), qz_nm, qz_nm]
  by_cases h0 : uu = 0
  · subst h0
    rw [if_pos nI_0]
    exact key 0 rfl
  · have h1 : uu = 1 := by omega
    subst h1
    rw [if_neg (by decide)]
    exact key 256 rfl
/-- the law's submits and the model's doesSubmit, where the client is free -/
theorem qL_submits {T f e t uu : Nat} {Xc : XT} (h : qz_R Xc y n p f e t 0) (hL : qL X y n p) (hn : n ≤ 45) (hp : p ≤ 45) (hc : c < 12) (hr : 1 ≤ r ∧ r ≤ 8) (hu : uu ≤ 1) (hfree : Xc 20 c = -5) (hN : 200 ≤ N) : ∃ (X3 : XT) (y3 : Nat → Int32) (p3 : Nat), f_X8_doesSubmit N (nI c) (nI r) (nI uu) (m_up Z 1 y) = some (nI n, m_up Z 1 y3) ∧ f_L_submits N (nI c) (nI r) (nI uu) X = some (nI n, X3) ∧ qlo X X3 ∧ qL X3 y3 (n + 1) p3 := by
  have hL0 := hL
  obtain ⟨hn0, hp0, hq, ht, hcc, hg⟩ := hL
  obtain ⟨q0, q1, q2, q3, q4, q5, q6, y6, q7, y7, q8, q9, _⟩ := hq
  have hub : nI uu = 0 ∨ nI uu = 1 := by
    rcases (show uu = 0 ∨ uu = 1 by omega) with rfl | rfl
    · exact Or.inl rfl
    · exact Or.inr rfl
  have h9 : y 9 = -5 ∨ ∃ j : Nat, j < p ∧ y 9 = nI j := by
    rcases qzR_wa h with q | ⟨j, u1, u2, _⟩
    · exact Or.inl q
    · exact Or.inr ⟨j, u1, u2⟩
  have hw := qzR_wr h
  have ha := qzR_s0 h
  unfold f_X8_doesSubmit f_L_submits
  rw [qz_rd (v := 8) (w := 8) rfl (by omega), qy_open q6 (by omega) hN, qL_open hcc, qz_openV h hc, hfree, qz_bi, if_pos (show (-5 : Int32) < 0 by decide), qy_q (v := 8) (j := 8) rfl (by omega), q8]
  rcases qzR_ga h with h8 | ⟨j0, g1, h8, hst, _⟩
  · rw [if_pos h8, h8, if_neg (show ¬ (0 : Int32) ≤ -5 by decide), qz_beginM h (by omega), qz_bi]
    have hB := qz_beginR h (by omega) h8
    have hLB := qs_BL hL0 hp h9 (qzR_g0 h p (Nat.le_refl _) (by omega))
    have e8 : qz_begY y p 8 = nI p := by
      unfold qz_begY
      rw [qz_uo (by omega), qz_uo (by omega), qz_us]
    have es : qz_begY y p (1216 + 4 * p + 0) = 1 := by
      unfold qz_begY
      rw [qz_uo (by omega), qz_us]
    have e9 : qz_begY y p 9 = y 9 := qz_begY_o (by omega) (by omega) (by omega) (by omega)
    have e1 : qz_begY y p 1 = y 1 := qz_begY_o (by omega) (by omega) (by omega) (by omega)
    have e2 : qz_begY y p 2 = y 2 := qz_begY_o (by omega) (by omega) (by omega) (by omega)
    rw [qz_addM hB (by omega) hub]
    have hA := qs_AL (c := c) (r := r) (j0 := p) (uu := uu) hLB hn (by omega) hc hr.2 hu
    obtain ⟨X3, y3, t1, t2, t3, t4⟩ := qL_tail (Z := Z) (v := n) (u := nI uu) (j0 := p) hA ((qz_addY_o (by omega) (by omega)).trans e8) (by omega) ((qz_addY_o (by omega) (by omega)).trans es) (by
      rw [qz_addY_o (by omega) (by omega), e9]
      rcases h9 with q | ⟨j, u1, u2⟩
      · exact Or.inl q
      · exact Or.inr ⟨j, by omega, u2⟩) (by rw [qz_addY_o (by omega) (by omega), e1]; exact hw) (by rw [qz_addY_o (by omega) (by omega), e2]; exact ha) hN
    refine ⟨X3, y3, p + 1, t1, ?_, ?_, t4⟩
    · rw [qy_q (v := 7) (j := 7) rfl (by omega), q7, qy_qw (v := 8) (j := 8) rfl (by omega), qy_q (v := 7) (j := 7) rfl (by omega), qz_up, qz_uo (show (7 : Nat) ≠ 8 by decide), q7, qy_rw rfl (show p < 48 by omega)]
      have s7 : m_up (m_up X 131 (upd (X 131) 8 (nI p))) 136 (upd (m_up X 131 (upd (X 131) 8 (nI p)) 136) p 1) 131 = upd (X 131) 8 (nI p) := by
        rw [qz_un _ _ (by decide), qz_up]
      rw [qy_q (v := 7) (j := 7) rfl (by omega), qy_q (v := 0) (j := 0) rfl (by omega), qy_q (v := 1) (j := 1) rfl (by omega), s7, qz_uo (show (7 : Nat) ≠ 8 by decide), qz_uo (show (0 : Nat) ≠ 8 by decide), qz_uo (show (1 : Nat) ≠ 8 by decide), q7, qz_nm, qy_rw rfl (show p < 48 by omega), qy_q (v := 7) (j := 7) rfl (by omega)]
      rw [qz_un _ _ (show (131 : Nat) ≠ 137 by decide), s7, qz_uo (show (7 : Nat) ≠ 8 by decide), q7, qz_nm, nI_1, qz_gd (show m_in 7 17 by decide), qz_nm, show Int32.toNatClampNeg 7 = 7 from rfl]
      have hX : m_up (m_up (m_up (m_up X 131 (upd (X 131) 8 (nI p))) 136 (upd (m_up X 131 (upd (X 131) 8 (nI p)) 136) p 1)) 137 (upd (m_up (m_up X 131 (upd (X 131) 8 (nI p))) 136 (upd (m_up X 131 (upd (X 131) 8 (nI p)) 136) p 1) 137) p (X 131 0 + X 131 1))) 131 (upd (upd (X 131) 8 (nI p)) 7 (nI (p + 1))) = qs_B X p := rfl
      rw [hX, qs_58 (j0 := p) hLB hn e8 (by omega) hu]
      exact t2
    · refine qlo_tr ?_ t3
      exact qlo_tr (qlo_tr (qlo_tr (qlo_tr (qlo_up (by omega)) (qlo_up (by omega))) (qlo_up (by omega))) (qlo_up (by omega))) (qlo_tr (qlo_tr (qlo_tr (qlo_tr (qlo_up (by omega)) (qlo_up (by omega))) (qlo_up (by omega))) (qlo_up (by omega))) (qlo_up (by omega)))
  · rw [if_neg (show ¬ y 8 = -5 by rw [h8]; exact qz_n5 (by omega)), qz_rd (v := 8) (w := 8) rfl (by omega), h8, if_pos (nI_pos' (by omega)), qz_addM h (by omega) hub]
    have hA := qs_AL (c := c) (r := r) (j0 := j0) (uu := uu) hL0 hn (by omega) hc hr.2 hu
    obtain ⟨X3, y3, t1, t2, t3, t4⟩ := qL_tail (Z := Z) (v := n) (u := nI uu) (j0 := j0) hA ((qz_addY_o (by omega) (by omega)).trans h8) (by omega) ((qz_addY_o (by omega) (by omega)).trans hst) (by rw [qz_addY_o (by omega) (by omega)]; exact h9) (by rw [qz_addY_o (by omega) (by omega)]; exact hw) (by rw [qz_addY_o (by omega) (by omega)]; exact ha) hN
    refine ⟨X3, y3, p, t1, ?_, ?_, t4⟩
    · rw [qs_58 (j0 := j0) hL0 hn h8 (by omega) hu]
      exact t2
    · exact qlo_tr (qlo_tr (qlo_tr (qlo_tr (qlo_tr (qlo_up (by omega)) (qlo_up (by omega))) (qlo_up (by omega))) (qlo_up (by omega))) (qlo_up (by omega))) t3
/-- the client has an open commit -/
theorem qL_submitsNo {f e t k : Nat} {Xc : XT} {v u : Int32} (h : qz_R Xc y n p f e t 0) (hL : qL X y n p) (hc : c < 12) (hk : Xc 20 c = nI k) (hk2 : k < 150) (hN : 200 ≤ N) : f_L_submits N (nI c) v u X = some (-4, X) := by
  obtain ⟨hn0, hp0, hq, ht, hcc, hg⟩ := hL
  unfold f_L_submits
  rw [qy_open hq.2.2.2.2.2.2.1 (by omega) hN, qL_open hcc, qz_openV h hc, hk, qz_bi, if_neg (nI_pos (by omega))]
end QL4
