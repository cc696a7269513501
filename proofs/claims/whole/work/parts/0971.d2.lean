-- one tick makes it one less
section QD2
variable {X XA X1 X2 Y Z : XT} {N n p f f2 e e2 t b j j0 d : Nat} {y yA y1 y2 : Nat → Int32} {g : Int32}
theorem qz_cst_eq (h13 : X2 13 = X 13) (h18 : X2 18 = X 18) : qz_cst X2 g = qz_cst X g := by
  unfold qz_cst
  rw [h13, h18]
theorem qz_qs_eq (h13 : X2 13 = X 13) (h18 : X2 18 = X 18) : ∀ m : Nat, (∀ q : Nat, q < m → X2 16 (f + q) = X 16 (f + q)) → qz_qs X2 f m = qz_qs X f m
  | 0, _ => rfl
  | m + 1, h => by
    show qz_qs X2 f m + qz_cst X2 (X2 16 (f + m)) = qz_qs X f m + qz_cst X (X 16 (f + m))
    rw [qz_qs_eq h13 h18 m (fun q hq => h q (by omega)), h m (by omega), qz_cst_eq h13 h18]
theorem qz_D_start (h : qz_R X y n p f e t b) (hs : qz_started X X2 y y2 p f f2 e) (hj : j < p) (hD : qz_D X f e t (nI j) d) : qz_D X2 f2 e t (nI j) d := by
  have hp0 := (qzR_pn h).1
  have hqb := qzR_qb h
  rcases hs with ⟨rfl, rfl, rfl, _⟩ | ⟨h9, hfe, rfl, j0, hj0, h16, a10, a11, a0, ar, _⟩
  · exact hD
  have e13 : X2 13 = X 13 := ar 13 (by omega) (by decide) (by decide) (by decide) (by decide)
  have e16 : X2 16 = X 16 := ar 16 (by omega) (by decide) (by decide) (by decide) (by decide)
  have e18 : X2 18 = X 18 := ar 18 (by omega) (by decide) (by decide) (by decide) (by decide)
  have eX : X 0 10 = -5 := (qzR_vx h).trans h9
  have hL : qz_L X = 0 := by unfold qz_L; rw [if_pos eX]
  have hc : qz_cst X (X 16 f) = qz_cst X (nI j0) := by rw [h16]
  have hL2 : qz_L X2 = qz_cst X (nI j0) := by
    unfold qz_L qz_cst
    rw [a10, if_neg (qz_n5 (by omega)), a11, nI_clamp (by omega)]
  have hqs : ∀ m : Nat, qz_qs X2 (f + 1) m = qz_qs X (f + 1) m := fun m => qz_qs_eq e13 e18 m (fun q _ => by rw [e16])
  rcases hD with ⟨q, _⟩ | ⟨q0, m, q1, q2, q3⟩ | ⟨q0, q1, q2, q3⟩
  · exact absurd (eX.symm.trans q) (qz_5n (by omega))
  · by_cases hm : m = 0
    · subst hm
      rw [Nat.add_zero] at q2
      refine Or.inl ⟨a10.trans (h16.symm.trans q2), ?_⟩
      rw [q3, hL, hL2, qz_qs_s, hc]
      show 0 + (qz_cst X (nI j0) + 0) = _
      omega
    · have hlt := qzR_qi h f (f + m) j0 j (Nat.le_refl _) (by omega) q1 (by omega) (by omega) h16 q2
      refine Or.inr (Or.inl ⟨by rw [a10]; intro u; rw [nI_eq (by omega) (by omega)] at u; omega, m - 1, by omega, by rw [e16, show f + 1 + (m - 1) = f + m by omega]; exact q2, ?_⟩)
      rw [q3, hL, hL2, hqs, qz_qs_s, hc, show m - 1 + 1 = m by omega]
      omega
  · have hne : nI j0 ≠ nI j := fun u => q2 0 (by omega) (by rw [Nat.add_zero, h16, u])
    refine Or.inr (Or.inr ⟨by rw [a10]; exact hne, by rw [a0 8 (by decide) (by decide)]; exact q1, fun m hm => by rw [e16, show f + 1 + m = f + (m + 1) by omega]; exact q2 (m + 1) (by omega), ?_⟩)
    have e1 : qz_qs X f (e - f) = qz_cst X (nI j0) + qz_qs X (f + 1) (e - (f + 1)) := by
      rw [show e - f = (e - (f + 1)) + 1 by omega, qz_qs_s, hc]
    rw [q3, hL, hL2, hqs, a0 9 (by decide) (by decide), qz_cst_eq e13 e18, e1, Nat.zero_add]
theorem qz_closed_qs (hc : qz_closed X X1 y y1 j0 e) {m : Nat} (hm : f + m ≤ e) : qz_qs X1 f m = qz_qs X f m := by
  obtain ⟨c1, c2, c3, _⟩ := hc
  exact qz_qs_eq c2 c3 m (fun q hq => by rw [c1, if_neg (by omega)])
theorem qz_D_close1 {t2 : Nat} (hc : qz_closed X X1 y y1 j0 e) (h8 : X 0 8 = nI j0) (hne : nI j ≠ nI j0) (hD : qz_D X f e t (nI j) d) : qz_D X1 f (e + 1) t2 (nI j) d := by
  have hcc := hc
  obtain ⟨c1, c2, c3, c4, c5, c6, c7, _⟩ := hcc
  have hL : qz_L X1 = qz_L X := by unfold qz_L; rw [c6, c7]
  rcases hD with ⟨q, u⟩ | ⟨q0, m, q1, q2, q3⟩ | ⟨_, q1, _⟩
  · exact Or.inl ⟨c6.trans q, u.trans hL.symm⟩
  · exact Or.inr (Or.inl ⟨by rw [c6]; exact q0, m, by omega, by rw [c1, if_neg (by omega)]; exact q2, by rw [hL, qz_closed_qs hc (by omega)]; exact q3⟩)
  · exact absurd (q1.symm.trans h8) hne
theorem qz_D_close2 (hfe : f ≤ e) (hc : qz_closed X X1 y y1 j0 e) (hne : X 0 10 ≠ nI j0) : qz_D X1 f (e + 1) t (nI j0) (qz_L X + qz_qs X f (e - f) + qz_cst X (nI j0)) := by
  have hcc := hc
  obtain ⟨c1, c2, c3, c4, c5, c6, c7, _⟩ := hcc
  have hL : qz_L X1 = qz_L X := by unfold qz_L; rw [c6, c7]
  refine Or.inr (Or.inl ⟨by rw [c6]; exact hne, e - f, by omega, by rw [c1, if_pos (by omega)], ?_⟩)
  show _ = qz_L X1 + (qz_qs X1 f (e - f) + qz_cst X1 (X1 16 (f + (e - f))))
  rw [hL, qz_closed_qs hc (by omega), c1, if_pos (by omega), qz_cst_eq c2 c3]
  omega
theorem qz_D_clock (h : qz_R X y n p f e t 0) (hc : qz_clocked X XA y yA) : XA 13 = X 13 ∧ XA 16 = X 16 ∧ XA 18 = X 18 ∧ XA 8 = X 8 ∧ XA 0 8 = X 0 8 ∧ XA 0 9 = X 0 9 ∧ qz_L XA = qz_L X - 1 ∧ ((XA 0 10 = X 0 10 ∧ (X 0 10 ≠ -5 → 2 ≤ qz_L X) ∧ ∀ c : Nat, c < 12 → XA 20 c = X 20 c) ∨ (XA 0 10 = -5 ∧ X 0 10 ≠ -5 ∧ qz_L X = 1 ∧ ∀ c : Nat, c < 12 → XA 20 c = if qz_hit X (X 0 10) c then -5 else X 20 c)) := by
  have vx := qzR_vx h
  rcases hc with ⟨a1, a2, a3, a4⟩ | ⟨j0, L, a00, a1, a2, a3, a4, a5, a6, a7, a8⟩ | ⟨j0, a0, a1, a2, a3, a4, a5, a6, a7⟩
  · have hL : qz_L X = 0 := by unfold qz_L; rw [if_pos (vx.trans a1)]
    have hLA : qz_L XA = 0 := by unfold qz_L; rw [if_pos ((a3 10 (by decide)).trans (vx.trans a1))]
    refine ⟨a4 13 (by omega) (by decide), a4 16 (by omega) (by decide), a4 18 (by omega) (by decide), a4 8 (by omega) (by decide), a3 8 (by decide), a3 9 (by decide), by omega, Or.inl ⟨a3 10 (by decide), fun q => absurd (vx.trans a1) q, fun c _ => by rw [a4 20 (by omega) (by decide)]⟩⟩
  · have hne : ¬ nI j0 = (-5 : Int32) := qz_n5 (by omega)
    have e10 : X 0 10 = nI j0 := vx.trans a1
    have hL : qz_L X = L := by unfold qz_L; rw [e10, if_neg hne, a2, nI_clamp (by omega)]
    have hLA : qz_L XA = L - 1 := by unfold qz_L; rw [a7 10 (by decide) (by decide), e10, if_neg hne, a6, nI_clamp (by omega)]
    refine ⟨a8 13 (by omega) (by decide), a8 16 (by omega) (by decide), a8 18 (by omega) (by decide), a8 8 (by omega) (by decide), a7 8 (by decide) (by decide), a7 9 (by decide) (by decide), by omega, Or.inl ⟨a7 10 (by decide) (by decide), fun _ => by omega, fun c _ => by rw [a8 20 (by omega) (by decide)]⟩⟩
  · have hne : ¬ nI j0 = (-5 : Int32) := qz_n5 (by omega)
    have e10 : X 0 10 = nI j0 := vx.trans a1
    have hL : qz_L X = 1 := by unfold qz_L; rw [e10, if_neg hne, a2, nI_clamp (by omega)]
    have hLA : qz_L XA = 0 := by unfold qz_L; rw [if_pos a4]
    refine ⟨a6 13 (by omega) (by decide) (by decide) (by decide) (by decide) (by decide) (by decide), a6 16 (by omega) (by decide) (by decide) (by decide) (by decide) (by decide) (by decide), a6 18 (by omega) (by decide) (by decide) (by decide) (by decide) (by decide) (by decide), a6 8 (by omega) (by decide) (by decide) (by decide) (by decide) (by decide) (by decide), a5 8 (by decide) (by decide) (by decide), a5 9 (by decide) (by decide) (by decide), by omega, Or.inr ⟨a4, by rw [e10]; exact hne, hL, fun c hc => by rw [a7 c hc, e10]⟩⟩
theorem qz_D_tick (h : qz_R X y n p f e t 0) (hfe : y 9 = -5 → f = e) (ht : t + 1 < 2 ^ 29) (hA : qz_R XA yA n p f e (t + 1) 0) (hc : qz_clocked X XA y yA) (htl : qz_tailed XA X2 yA y2 p f f2 e e2 (t + 1) n 0) (hj : j < p) (hD : qz_D X f e t (nI j) d) : (X 0 10 = nI j ∧ qz_L X = 1 ∧ d = 1) ∨ (2 ≤ d ∧ qz_D X2 f2 e2 (t + 1) (nI j) (d - 1)) := by
  have hp0 := (qzR_pn h).1
  have hqb := qzR_qb h
  have hLn := qz_L_n h
  obtain ⟨k13, k16, k18, k8, k08, k09, kL, kw⟩ := qz_D_clock h hc
  have hqs : ∀ m : Nat, qz_qs XA f m = qz_qs X f m := fun m => qz_qs_eq k13 k18 m (fun q _ => by rw [k16])
  have hcs : qz_cst XA (nI j) = qz_cst X (nI j) := qz_cst_eq k13 k18
  have hjn : nI j ≠ (-5 : Int32) := qz_n5 (by omega)
  have hcn := qz_cst_n h hj
  -- not written now, not written then
  have hw10 : X 0 10 ≠ nI j → XA 0 10 ≠ nI j := fun q => by
    rcases kw with ⟨w1, _⟩ | ⟨w1, _⟩
    · rw [w1]; exact q
    · rw [w1]; exact fun u => hjn u.symm
  rcases hD with ⟨q, u⟩ | ⟨q0, m, q1, q2, q3⟩ | ⟨q0, q1, q2, q3⟩
  · -- it is written
    have hL1 := (hLn.2.1 (by rw [q]; exact hjn)).1
    rcases kw with ⟨w1, w2, _⟩ | ⟨w1, w2, w3, _⟩
    · have hL2 := w2 (by rw [q]; exact hjn)
      have hDA : qz_D XA f e (t + 1) (nI j) (d - 1) := Or.inl ⟨w1.trans q, by omega⟩
      refine Or.inr ⟨by omega, ?_⟩
      rcases htl with ⟨rfl, _, hs⟩ | ⟨j0, E, X1, y1, rfl, hj0, g8, _, _, _, hcl, hR1, hs⟩
      · exact qz_D_start hA hs hj hDA
      · have g8X : XA 0 8 = nI j0 := (qzR_gx hA).trans g8
        have hne : nI j ≠ nI j0 := fun v => by
          have a := (qz_gath hA hj).mp (v.trans g8.symm)
          have c := (qz_writ hA hj).mp (by rw [← qzR_vx hA, w1, q])
          rw [a] at c
          exact absurd c (by decide)
        exact qz_D_start hR1 hs hj (qz_D_close1 hcl g8X hne hDA)
    · exact Or.inl ⟨q, w3, by omega⟩
  · -- it is queued
    have hL1 : 1 ≤ qz_L X := by
      have hne : X 0 10 ≠ -5 := fun v => by
        have := hfe ((qzR_vx h).symm.trans v)
        omega
      exact (hLn.2.1 hne).1
    have hq1 := qz_qs_le h (m + 1) (by omega)
    have hDA : qz_D XA f e (t + 1) (nI j) (d - 1) := Or.inr (Or.inl ⟨hw10 q0, m, q1, by rw [k16]; exact q2, by rw [hqs]; omega⟩)
    refine Or.inr ⟨by omega, ?_⟩
    rcases htl with ⟨rfl, _, hs⟩ | ⟨j0, E, X1, y1, rfl, hj0, g8, _, _, _, hcl, hR1, hs⟩
    · exact qz_D_start hA hs hj hDA
    · have g8X : XA 0 8 = nI j0 := (qzR_gx hA).trans g8
      have hne : nI j ≠ nI j0 := fun v => by
        have a := (qz_gath hA hj).mp (v.trans g8.symm)
        obtain ⟨j2, u1, u2, u3⟩ := qzR_qs hA (f + m) (by omega) q1
        rw [k16, q2, nI_eq (by omega) (by omega)] at u2
        rw [← u2, a] at u3
        exact absurd u3 (by decide)
      exact qz_D_start hR1 hs hj (qz_D_close1 hcl g8X hne hDA)
  · -- it gathers
    have hq1 := qz_qs_le h (e - f) (by omega)
    have hL0 : qz_L X = 0 → e - f = 0 := fun v => by
      by_cases w : X 0 10 = -5
      · have := hfe ((qzR_vx h).symm.trans w)
        omega
      · have := (hLn.2.1 w).1
        omega
    have hz : e - f = 0 → qz_qs X f (e - f) = 0 := fun v => by rw [v]; rfl
    refine Or.inr ⟨by omega, ?_⟩
    rcases htl with ⟨rfl, hlate, hs⟩ | ⟨j0, E, X1, y1, rfl, hj0, g8, E1, E2, E3, hcl, hR1, hs⟩
    · have hE : t + 1 < (X 0 9).toNatClampNeg := by
        rcases hlate with v | ⟨E, E1, E2, E3⟩
        · have a : XA 0 8 = -5 := (qzR_gx hA).trans v
          rw [k08, q1] at a
          exact absurd a hjn
        · rw [← k09, E2, nI_clamp (by omega)]
          exact E3
      refine qz_D_start hA hs hj (Or.inr (Or.inr ⟨hw10 q0, k08.trans q1, fun m hm => by rw [k16]; exact q2 m hm, ?_⟩))
      rw [hqs, hcs, k09, kL, q3]
      rcases Nat.eq_zero_or_pos (qz_L X) with v | v
      · have a := hz (hL0 v)
        omega
      · omega
    · have hE : (X 0 9).toNatClampNeg ≤ t + 1 := by
        rw [← k09, E2, nI_clamp (by omega)]
        exact E3
      have g8X : XA 0 8 = nI j0 := (qzR_gx hA).trans g8
      have hjj : nI j0 = nI j := g8X.symm.trans (k08.trans q1)
      have hjj2 : j0 = j := (nI_eq (by omega) (by omega)).mp hjj
      subst hjj2
      have hDA := qz_D_close2 (t := t + 1) hqb.1 hcl (hw10 q0)
      rw [hqs, hcs, kL] at hDA
      have e1 : qz_L X - 1 + qz_qs X f (e - f) + qz_cst X (nI j0) = d - 1 := by
        rw [q3]
        rcases Nat.eq_zero_or_pos (qz_L X) with v | v
        · have a := hz (hL0 v)
          omega
        · omega
      rw [e1] at hDA
      exact qz_D_start hR1 hs hj hDA
end QD2
