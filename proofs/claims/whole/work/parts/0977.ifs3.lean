-- ifSubmitted, the class's side
section QIF3
variable {X XM X3 Y Z : XT} {N n p f e t b T j0 : Nat} {y yM y3 : Nat → Int32} {u : Int32}
theorem qz_if42 (h : qz_R X y n p f e t 0) (ht : t < 2 ^ 29) (hN : 200 ≤ N) {tog : Int32} {E c d : Nat} (hE : E < 2 ^ 30) (hc : X 18 2 + tog / 4 = nI c) (hc2 : c ≤ 1000) (hu : u = 0 ∨ u = 1) (hd : (u = 0 ∧ tog < X 18 1 ∧ X 0 6 < nI E ∧ d = max (qz_L X + qz_qs X f (e - f)) (E - t) + c) ∨ ((u = 0 → tog < X 18 1 → ¬ X 0 6 < nI E) ∧ d = qz_L X + qz_qs X f (e - f) + c)) : f_X3_ticksIfEntered_42 N u tog (nI E) X = some (nI d, X) := by
  have hp0 := (qzR_pn h).1
  have hqb := qzR_qb h
  have hL := qz_L_n h
  have hq := qz_qs_le h (e - f) (by omega)
  unfold f_X3_ticksIfEntered_42 f_X3_reasonToClose
  rw [qz_disk h hN, qz_bi]
  rcases hd with ⟨q1, q2, q3, q4⟩ | ⟨q1, q2⟩
  · have hlt : t < E := by
      have a := q3
      rw [qzR_tx h, nI_ltI (by omega) (by omega)] at a
      exact a
    rw [if_pos q1, qz_valueOf (v := 1) (i := 1) rfl (by omega), qz_bi, if_pos q2, if_pos q3, qz_bi, if_pos rfl, qzR_tx h, pk_sub (by omega), qz_nm, qz_maxN (by omega) (by omega), qz_nm, qz_ticksToWrite, qz_bi, hc, nI_add, qz_nm, q4]
  · by_cases hu0 : u = 0
    · rw [if_pos hu0, qz_valueOf (v := 1) (i := 1) rfl (by omega), qz_bi]
      by_cases h1 : tog < X 18 1
      · rw [if_pos h1, if_neg (q1 hu0 h1), qz_bi, if_neg (by decide), qz_ticksToWrite, qz_bi, hc, nI_add, qz_nm, q2]
      · rw [if_neg h1, qz_bi, if_neg (by decide), qz_ticksToWrite, qz_bi, hc, nI_add, qz_nm, q2]
    · rw [if_neg hu0, qz_bi, if_neg (by decide), qz_ticksToWrite, qz_bi, hc, nI_add, qz_nm, q2]
end QIF3
