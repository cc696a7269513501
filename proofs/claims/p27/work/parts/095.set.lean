-- set, and the start
section QSE
variable {X Y : XT} {N T : Nat}
theorem qz_least (j : Nat) (hj : j < 4) (W : XT) : f_X8_leastOf N (nI j) W = some (m_least j, W) ∧ f_X8_mostOf N (nI j) W = some (m_greatest j, W) := by
  have hc : j = 0 ∨ j = 1 ∨ j = 2 ∨ j = 3 := by omega
  unfold f_X8_leastOf f_X8_mostOf
  rcases hc with rfl | rfl | rfl | rfl <;> exact ⟨rfl, rfl⟩
/-- a setting within its range -/
theorem qz_aSet (hN : 6000 ≤ N) (hI : qz_I T X Y) {j : Nat} (hj : j < 4) {v2 : Int32} (h1 : ¬ v2 < m_least j) (h2 : ¬ m_greatest j < v2) : ∃ (X1 Y2 : XT), f_X7_set N (nI j) v2 X = some (Y 1 (2 + j), X1) ∧ Y2 1 = Y 1 ∧ qz_I T X1 (m_up Y2 1 (upd (Y 1) (2 + j) v2)) ∧ qz_fz X X1 ∧ ∃ h : Nat, qz_top Y (m_up Y2 1 (upd (Y 1) (2 + j) v2)) h := by
  unfold f_X7_set f_X6_refusal
  obtain ⟨X2, Y2, p1, p2, p3, p4, ⟨h2t, p5⟩, p6⟩ := qz_push (N := N) hI hN
  rw [if_neg (nI_pos (by omega)), if_pos (show nI j < 4 from nI_lt (b := 4) hj (by omega)), qz_gd (qz_in hj (by omega))]
  simp only [nI_clamp (show j < 2 ^ 31 by omega)]
  rw [qz_nm (m_least j), if_neg h1, qz_gd (qz_in hj (by omega)), qz_nm (m_greatest j), if_pos (Int32.not_lt.mp h2), qz_bi, if_pos rfl, p1, qz_bv]
  have p30 := p3
  obtain ⟨⟨n, p, f, e, t, hR, hfe, hT⟩, _⟩ := p30
  have eidx : (2 : Int32) + nI j = nI (2 + j) := by rw [show (2 : Int32) = nI 2 from rfl, nI_add]
  have hC : f_X3_change N (nI j) v2 X2 = some (Y2 1 (2 + j), m_up X2 18 (upd (X2 18) j v2)) := by
    unfold f_X3_change f_X6_change
    rw [qz_bis, qz_valueOf (v := nI j) (i := j) rfl hj, qz_bi, if_neg (nI_pos (by omega)), if_neg (show ¬ 4 ≤ nI j from nI_ge (a := j) (b := 4) hj (by omega)), qz_gd (qz_in hj (by omega)), nI_clamp (by omega), qz_nm, qzR_sx hR j hj]
  have eY : Y2 1 = Y 1 := p4.2.2.2.2.2.1
  rw [qz_bis, hC, eY]
  have hrange : ∃ a : Nat, m_least j ≤ nI a ∧ a ≤ 40 ∧ v2 = nI a ∧ nI a ≤ m_greatest j := by
    have hc : j = 0 ∨ j = 1 ∨ j = 2 ∨ j = 3 := by omega
    rcases hc with rfl | rfl | rfl | rfl
    · obtain ⟨a, a1, a2, a3⟩ := (qz_within (v := v2) (a := 0) (c := 20) (u := m_least 0) (w := m_greatest 0) rfl rfl (by omega) (by omega)).mp ⟨h1, h2⟩
      exact ⟨a, by rw [← a3]; exact Int32.not_lt.mp h1, by omega, a3, by rw [← a3]; exact Int32.not_lt.mp h2⟩
    · obtain ⟨a, a1, a2, a3⟩ := (qz_within (v := v2) (a := 1) (c := 40) (u := m_least 1) (w := m_greatest 1) rfl rfl (by omega) (by omega)).mp ⟨h1, h2⟩
      exact ⟨a, by rw [← a3]; exact Int32.not_lt.mp h1, by omega, a3, by rw [← a3]; exact Int32.not_lt.mp h2⟩
    · obtain ⟨a, a1, a2, a3⟩ := (qz_within (v := v2) (a := 1) (c := 20) (u := m_least 2) (w := m_greatest 2) rfl rfl (by omega) (by omega)).mp ⟨h1, h2⟩
      exact ⟨a, by rw [← a3]; exact Int32.not_lt.mp h1, by omega, a3, by rw [← a3]; exact Int32.not_lt.mp h2⟩
    · obtain ⟨a, a1, a2, a3⟩ := (qz_within (v := v2) (a := 0) (c := 1) (u := m_least 3) (w := m_greatest 3) rfl rfl (by omega) (by omega)).mp ⟨h1, h2⟩
      exact ⟨a, by rw [← a3]; exact Int32.not_lt.mp h1, by omega, a3, by rw [← a3]; exact Int32.not_lt.mp h2⟩
  obtain ⟨a, r1, r2, r3, r4⟩ := hrange
  rw [← eY]
  refine ⟨_, Y2, rfl, rfl, qz_I_fr p3 (Nat.le_refl _) (qz_fr_up (by omega)) ⟨n, p, f, e, t, ?_, fun q => hfe (by rw [qz_uo (by omega)] at q; exact q), hT⟩, fun i hi => by rw [qz_un _ _ (by omega)]; exact p6 i hi, h2t, qz_top_up p5⟩
  refine qzo_set (x := X2) (y := Y2 1) hR ?_ ?_ ?_ ?_ ?_ ?_ ?_
  · intro q _ q18
    exact qz_un _ _ q18
  · intro q q1 q2 q3 q4 q5
    exact qz_uo (by omega)
  · intro k w k1 k2
    exact qz_uo (by omega)
  · intro k w k1 k2
    exact qz_uo (by omega)
  · intro q hq
    rw [qz_up]
    by_cases e1 : q = j
    · rw [e1, qz_us, qz_us]
    · rw [qz_uo e1, qz_uo (by omega)]
      exact qzR_sx hR q hq
  · by_cases e1 : j = 0
    · subst e1
      rw [qz_us]
      refine ⟨a, ?_, r3⟩
      exact (nI_leI (by omega) (by omega)).mp (show nI a ≤ nI 20 from r4)
    · rw [qz_uo (by omega)]
      exact qzR_s0 hR
  · by_cases e1 : j = 2
    · subst e1
      rw [qz_us]
      refine ⟨a, ?_, ?_, r3⟩
      · exact (nI_leI (by omega) (by omega)).mp (show nI 1 ≤ nI a from r1)
      · exact (nI_leI (by omega) (by omega)).mp (show nI a ≤ nI 20 from r4)
    · rw [qz_uo (by omega)]
      exact qzR_s2 hR
end QSE
