-- set, and the start
section QSE
variable {X Y : XT} {N T : Nat}
theorem qz_least (j : Nat) (hj : j < 4) (W : XT) : f_X8_leastOf N (nI j) W = some (m_least j, W) ∧ f_X8_mostOf N (nI j) W = some (m_greatest j, W) := by
  have hc : j = 0 ∨ j = 1 ∨ j = 2 ∨ j = 3 := by omega
  unfold f_X8_leastOf f_X8_mostOf
  rcases hc with rfl | rfl | rfl | rfl <;> exact ⟨rfl, rfl⟩
theorem qz_setting (v : Int32) : (∃ j : Nat, j < 4 ∧ v = nI j) ∨ ((v < 0 ∨ (¬ v < 0 ∧ ¬ v < 4)) ∧ ∀ W : XT, f_X8_within N v 0 3 W = some (0, W)) := by
  by_cases h1 : v < 0
  · refine Or.inr ⟨Or.inl h1, fun W => ?_⟩
    unfold f_X8_within; rw [if_pos h1]
  · by_cases h2 : 3 < v
    · refine Or.inr ⟨Or.inr ⟨h1, ?_⟩, fun W => ?_⟩
      · exact Int32.not_lt.mpr ((qz_ltle (a := 3) (by omega)).mp h2)
      · unfold f_X8_within; rw [if_neg h1, if_pos h2]
    · obtain ⟨j, j1, j2, j3⟩ := (qz_within (v := v) (a := 0) (c := 3) (u := 0) (w := 3) rfl rfl (by omega) (by omega)).mp ⟨h1, h2⟩
      exact Or.inl ⟨j, by omega, j3⟩
theorem qz_st_set (hN : 6000 ≤ N) : m_st_set N qz_Inv := by
  intro i X Y _ hI v1 v2
  unfold f_X7_set f_X8_set f_X6_refusal
  rcases qz_setting (N := N) v1 with ⟨j, hj, rfl⟩ | ⟨q1, q2⟩
  · have hw : f_X8_within N (nI j) 0 3 Y = some (1, Y) := by
      unfold f_X8_within
      rw [if_neg (nI_pos (by omega)), if_neg (show ¬ 3 < nI j from nI_nlt (a := 3) (b := j) (by omega) (by omega))]
    rw [if_neg (nI_pos (by omega)), if_pos (show nI j < 4 from nI_lt (b := 4) hj (by omega)), qz_gd (qz_in hj (by omega))]
    simp only [nI_clamp (show j < 2 ^ 31 by omega)]
    rw [qz_nm (m_least j), hw, qz_bi, if_neg qz_10, (qz_least j hj Y).1, qz_bi, (qz_least j hj Y).2, qz_bi]
    unfold f_X8_within
    by_cases h1 : v2 < m_least j
    · rw [if_pos h1, if_pos h1, qz_bi, qz_bi, if_neg (by decide), if_pos rfl]
      exact ⟨_, X, Y, rfl, rfl, qz_Inv_s hI⟩
    by_cases h2 : m_greatest j < v2
    · rw [if_neg h1, if_neg h1, qz_gd (qz_in hj (by omega)), qz_nm (m_greatest j), if_neg (Int32.not_le.mpr h2), if_pos h2, qz_bi, qz_bi, if_neg (by decide), if_pos rfl]
      exact ⟨_, X, Y, rfl, rfl, qz_Inv_s hI⟩
    obtain ⟨X2, Y2, p1, p2, p3, p4⟩ := qz_push (N := N) hI hN
    rw [if_neg h1, if_neg h1, qz_gd (qz_in hj (by omega)), qz_nm (m_greatest j), if_pos (Int32.not_lt.mp h2), if_neg h2, qz_bi, qz_bi, if_pos rfl, if_neg qz_10, p1, p2, qz_bv, qz_bv]
    have p30 := p3
    obtain ⟨⟨n, p, f, e, t, hR, hfe, hT⟩, _⟩ := p30
    have eidx : (2 : Int32) + nI j = nI (2 + j) := by rw [show (2 : Int32) = nI 2 from rfl, nI_add]
    have hM : (m_nm ((2 : Int32) + nI j) fun y_17 => m_gd (m_in y_17 1816) <| m_nm (Y2 1 (Int32.toNatClampNeg y_17)) fun y_19 => m_nm ((2 : Int32) + nI j) fun y_22 => m_gd (m_in y_22 1816) <| m_nm (m_up Y2 1 (upd (Y2 1) (Int32.toNatClampNeg y_22) v2)) fun X_24 => some (y_19, X_24)) = some (Y2 1 (2 + j), m_up Y2 1 (upd (Y2 1) (2 + j) v2)) := by
      rw [qz_nm, eidx, qz_rdY (v := nI (2 + j)) (w := 2 + j) rfl (by omega), qz_nm, qz_gd (qz_in (by omega) (by omega)), nI_clamp (by omega), qz_nm]
    have hC : f_X3_change N (nI j) v2 X2 = some (Y2 1 (2 + j), m_up X2 18 (upd (X2 18) j v2)) := by
      unfold f_X3_change f_X6_change
      rw [qz_bis, qz_valueOf (v := nI j) (i := j) rfl hj, qz_bi, if_neg (nI_pos (by omega)), if_neg (show ¬ 4 ≤ nI j from nI_ge (a := j) (b := 4) hj (by omega)), qz_gd (qz_in hj (by omega)), nI_clamp (by omega), qz_nm, qzR_sx hR j hj]
    rw [qz_bis, hC, hM]
    have hrange : ∃ a : Nat, m_least j ≤ nI a ∧ a ≤ 40 ∧ v2 = nI a ∧ nI a ≤ m_greatest j := by
      have hc : j = 0 ∨ j = 1 ∨ j = 2 ∨ j = 3 := by omega
      rcases hc with rfl | rfl | rfl | rfl
      · obtain ⟨a, a1, a2, a3⟩ := (qz_within (v := v2) (a := 0) (c := 20) (u := m_least 0) (w := m_greatest 0) rfl rfl (by omega) (by omega)).mp ⟨h1, h2⟩
        exact ⟨a, by rw [← a3]; exact Int32.not_lt.mp h1, by omega, a3, by rw [← a3]; exact Int32.not_lt.mp h2⟩
      · obtain ⟨a, a1, a2, a3⟩ := (qz_within (v := v2) (a := 1) (c := 40) (u := m_least 1) (w := m_greatest 1) rfl rfl (by omega) (by omega)).mp ⟨h1, h2⟩
        exact ⟨a, by rw [← a3]; exact Int32.not_lt.mp h1, by omega, a3, by rw [← a3]; exact Int32.not_lt.mp h2⟩
      · obtain ⟨a, a1, a2, a3⟩ := (qz_within (v := v2) (a := 1) (c := 20) (u := m_least 2) (w := m_greatest 2) rfl rfl (by omega) (by omega)).mp ⟨h1, h2⟩
        exact ⟨a, by rw [← a3]; exact Int32.not_lt.mp h1, by omega, a3, by rw [← a3]; exact Int32.not_lt.mp h2⟩
      · obtain ⟨a, a1, a2, a3⟩ := (qz_within (v := v2) (a := 0) (c := 1) (u := m_least 3) (w := m_greatest 3) rfl rfl (by omega) (by omega)).mp ⟨h1, h2⟩
        exact ⟨a, by rw [← a3]; exact Int32.not_lt.mp h1, by omega, a3, by rw [← a3]; exact Int32.not_lt.mp h2⟩
    obtain ⟨a, r1, r2, r3, r4⟩ := hrange
    refine ⟨_, _, _, rfl, rfl, qz_I_fr p3 (by omega) (qz_fr_up (by omega)) (qz_S_le (by omega) ⟨n, p, f, e, t, ?_, fun q => hfe (by rw [qz_uo (by omega)] at q; exact q), hT⟩)⟩
    refine qzo_set (x := X2) (y := Y2 1) hR ?_ ?_ ?_ ?_ ?_ ?_ ?_
    · intro q _ q18
      exact qz_un _ _ q18
    · intro q q1 q2 q3 q4 q5
      exact qz_uo (by omega)
    · intro k w k1 k2
      exact qz_uo (by omega)
    · intro k w k1 k2
      exact qz_uo (by omega)
    · intro q hq
      rw [qz_up]
      by_cases e1 : q = j
      · rw [e1, qz_us, qz_us]
      · rw [qz_uo e1, qz_uo (by omega)]
        exact qzR_sx hR q hq
    · by_cases e1 : j = 0
      · subst e1
        rw [qz_us]
        refine ⟨a, ?_, r3⟩
        exact (nI_leI (by omega) (by omega)).mp (show nI a ≤ nI 20 from r4)
      · rw [qz_uo (by omega)]
        exact qzR_s0 hR
    · by_cases e1 : j = 2
      · subst e1
        rw [qz_us]
        refine ⟨a, ?_, ?_, r3⟩
        · exact (nI_leI (by omega) (by omega)).mp (show nI 1 ≤ nI a from r1)
        · exact (nI_leI (by omega) (by omega)).mp (show nI a ≤ nI 20 from r4)
      · rw [qz_uo (by omega)]
        exact qzR_s2 hR
  · rw [q2, qz_bi, if_pos rfl]
    rcases q1 with q | ⟨q, q3⟩
    · rw [if_pos q, qz_bi, if_neg (by decide)]
      exact ⟨_, X, Y, rfl, rfl, qz_Inv_s hI⟩
    · rw [if_neg q, if_neg q3, qz_bi, if_neg (by decide)]
      exact ⟨_, X, Y, rfl, rfl, qz_Inv_s hI⟩
end QSE
