-- ifSubmitted, the call
section QIF4
variable {X Y Z : XT} {N T : Nat}
theorem qz_st_ifSubmitted (hN : 100000 ≤ N) : m_st_ifSubmitted N qz_Inv := by
  intro i X Y hi hI v1 u hu
  have hI0 := hI
  obtain ⟨⟨n, p, f, e, t, h, hfe, hT⟩, _⟩ := hI0
  have hn0 := qzR_nn h
  have hp0 := (qzR_pn h).1
  have hpn := (qzR_pn h).2.2 (by decide)
  have hqb := qzR_qb h
  have hY6 : Y 1 6 = nI n := qzR_ny h
  unfold f_X7_ifSubmitted f_X8_ifSubmitted f_X3_refusalOfAnyEntry f_X3_isRecords f_X8_within f_X0_isFull
  by_cases h1 : v1 < 1
  · rw [if_pos h1, if_pos h1, qz_bi, qz_bi, if_pos rfl, if_pos rfl, qz_bi, if_neg (by decide)]
    exact ⟨_, X, Y, rfl, rfl, qz_Inv_s hI⟩
  by_cases h2 : 8 < v1
  · rw [if_neg h1, if_neg h1, if_pos h2, if_pos h2, qz_bi, qz_bi, if_pos rfl, if_pos rfl, qz_bi, if_neg (by decide)]
    exact ⟨_, X, Y, rfl, rfl, qz_Inv_s hI⟩
  obtain ⟨r0, r1, r2, rfl⟩ := (qz_within (v := v1) (a := 1) (c := 8) (u := 1) (w := 8) rfl rfl (by omega) (by omega)).mp ⟨h1, h2⟩
  rw [if_neg h1, if_neg h1, if_neg h2, if_neg h2, qz_bi, qz_bi, if_neg qz_10, if_neg qz_10, qz_rdY (v := 6) (w := 6) rfl (by omega), hY6, qzR_nx h, show (150 : Int32) = nI 150 from rfl]
  by_cases hn : n = 150
  · rw [hn, if_neg (nI_nlt (Nat.le_refl _) (by omega)), if_pos rfl, qz_bi, if_neg qz_10, qz_bi, if_neg (by decide)]
    exact ⟨_, X, Y, rfl, rfl, qz_Inv_s hI⟩
  rw [if_pos (nI_lt (show n < 150 by omega) (by omega)), if_neg (fun q => hn ((nI_eq (by omega) (by omega)).mp q)), qz_bi, if_pos rfl]
  have hfree := qz_free (Z := Y) h (show 200 ≤ N by omega)
  rw [qz_ue] at hfree
  rcases hfree with ⟨a1, a2⟩ | ⟨c0, hc, a2, a3, m, m1, m2⟩
  · rw [a1, a2, qz_bi, qz_bi, if_pos rfl, if_pos (show nI 12 = 12 from rfl), qz_bi, if_neg (by decide)]
    exact ⟨_, X, Y, rfl, rfl, qz_Inv_s hI⟩
  rw [a3, m2, qz_bi, qz_bi, if_neg (qz_n5 (by omega)), if_neg (show ¬ nI m = 12 from fun q => by have := (nI_eq (b := 12) (by omega) (by omega)).mp q; omega), qz_bi, if_pos rfl, qz_bis]
  obtain ⟨YA, b1, b2, b3⟩ := qz_aside (N := N) hI (by omega)
  obtain ⟨X3, y3, p3, f3, e3, j0, XM, yM, s1, s2, s3, s4, s5, s6, s7, s8, s9, s10, s11, s12, s13⟩ := qz_submit (Z := YA) (u := u) h hfe (show 200 ≤ N by omega) (show n < 150 by omega) hc ⟨r1, r2⟩ a2 hu
  rw [← b2, qz_ue] at s2
  have hp30 := (qzR_pn s3).1
  sorry
end QIF4
