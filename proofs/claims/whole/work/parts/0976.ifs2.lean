-- ifSubmitted, joined
section QIF2
variable {X XM X3 Y Z : XT} {N n p f e t b T j0 : Nat} {y yM y3 : Nat → Int32} {u : Int32}
theorem qz_qs_add (h : qz_R X y n p f e t b) (h13 : ∀ j : Nat, j ≠ j0 → XM 13 j = X 13 j) (h16 : XM 16 = X 16) (h18 : XM 18 = X 18) (hj0 : ∀ j : Nat, j < p → y (1216 + 4 * j + 0) = 2 → j ≠ j0) : ∀ m : Nat, f + m ≤ e → qz_qs XM f m = qz_qs X f m
  | 0, _ => rfl
  | m + 1, hm => by
    have hp0 := (qzR_pn h).1
    obtain ⟨j, j1, j2, j3⟩ := qzR_qs h (f + m) (by omega) (by omega)
    show qz_qs XM f m + qz_cst XM (XM 16 (f + m)) = qz_qs X f m + qz_cst X (X 16 (f + m))
    rw [qz_qs_add h h13 h16 h18 hj0 m (by omega), h16, j2]
    unfold qz_cst
    rw [h18, nI_clamp (by omega), h13 j (hj0 j j1 j3)]
/-- the closed form of the commit that would be added, over the state right behind the adding -/
theorem qz_entD {f3 e3 : Nat} (hM : qz_R XM yM n p f e t 0) (ht : t < 2 ^ 29) (hj : j0 < p) (h8 : yM 8 = nI j0) (he : qz_entered XM X3 yM y3 n p f f3 e e3 t j0 u) : ∃ d : Nat, qz_D X3 f3 e3 t (nI j0) d ∧ ((u = 0 ∧ XM 13 j0 < XM 18 1 ∧ XM 0 6 < XM 0 9 ∧ d = max (qz_L XM + qz_qs XM f (e - f)) ((XM 0 9).toNatClampNeg - t) + qz_cst XM (nI j0)) ∨ ((u = 0 → XM 13 j0 < XM 18 1 → ¬ XM 0 6 < XM 0 9) ∧ d = qz_L XM + qz_qs XM f (e - f) + qz_cst XM (nI j0))) := by
  have hp0 := (qzR_pn hM).1
  have hqb := qzR_qb hM
  have h1 := (qz_gath hM hj).mp h8.symm
  have h10 : XM 0 10 ≠ nI j0 := fun q => by
    have a := (qz_writ hM hj).mp (by rw [← qzR_vx hM, q])
    rw [h1] at a
    exact absurd a (by decide)
  rcases he with ⟨q1, q2, q3, ex, ey, ef, ee⟩ | ⟨q1, rfl, X1, y1, q2, q3, q4⟩
  · have hE : ∃ E : Nat, E < 2 ^ 30 ∧ XM 0 9 = nI E := by
      rcases qzR_ga hM with w | ⟨j2, _, _, _, w4, E, w5, w6⟩
      · exact absurd (w.symm.trans h8) (qz_5n (by omega))
      · exact ⟨E, by omega, w4.trans w6⟩
    obtain ⟨E, E1, E2⟩ := hE
    have hlt : t < E := by
      have a := q3
      rw [qzR_tx hM, E2, nI_ltI (by omega) (by omega)] at a
      exact a
    rw [ex, ef, ee]
    refine ⟨_, Or.inr (Or.inr ⟨h10, (qzR_gx hM).trans h8, fun m hm w => ?_, rfl⟩), Or.inl ⟨q1, q2, q3, ?_⟩⟩
    · obtain ⟨j2, w1, w2, w3⟩ := qzR_qs hM (f + m) (by omega) hm
      rw [w, nI_eq (by omega) (by omega)] at w2
      rw [← w2, h1] at w3
      exact absurd w3 (by decide)
    · rw [E2, nI_clamp (by omega), Nat.max_eq_left (show 1 ≤ E - t by omega)]
  · exact ⟨_, qz_D_start q3 q4 hj (qz_D_close2 (t := t) hqb.1 q2 h10), Or.inr ⟨q1, rfl⟩⟩
end QIF2
