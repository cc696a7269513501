-- ifSubmitted, the call
section QIF4
variable {X Y Z XM X3 : XT} {N T n p f e t j0 n2 p3 E d : Nat} {y yM y3 : Nat → Int32} {u tog : Int32}
theorem qz_ifC (h : qz_R X y n p f e t 0) (ht : t < 2 ^ 29) (hN : 200 ≤ N) (hM : qz_R XM yM n2 p3 f e t 0) (hj : j0 < p3) (hL : qz_L XM = qz_L X) (h18 : XM 18 = X 18) (hq : qz_qs XM f (e - f) = qz_qs X f (e - f)) (h06 : XM 0 6 = X 0 6) (h09 : XM 0 9 = nI E) (hE : E < 2 ^ 30) (h13 : XM 13 j0 = tog) (hu : u = 0 ∨ u = 1) (hd : (u = 0 ∧ XM 13 j0 < XM 18 1 ∧ XM 0 6 < XM 0 9 ∧ d = max (qz_L XM + qz_qs XM f (e - f)) ((XM 0 9).toNatClampNeg - t) + qz_cst XM (nI j0)) ∨ ((u = 0 → XM 13 j0 < XM 18 1 → ¬ XM 0 6 < XM 0 9) ∧ d = qz_L XM + qz_qs XM f (e - f) + qz_cst XM (nI j0))) : f_X3_ticksIfEntered_42 N u tog (nI E) X = some (nI d, X) := by
  have hc := qz_cst_n hM hj
  rw [hL, hq, h06, h09, h18, h13, nI_clamp (by omega)] at hd
  rw [h18, h13] at hc
  exact qz_if42 (c := qz_cst XM (nI j0)) h ht hN hE hc.2.2 (by omega) hu hd
theorem qz_ent_rows {f3 e3 : Nat} (he : qz_entered XM X3 yM y3 n p f f3 e e3 t j0 u) : X3 8 = XM 8 ∧ X3 20 = XM 20 := by
  rcases he with ⟨_, _, _, ex, _⟩ | ⟨_, _, X1, y1, q2, _, q4⟩
  · rw [ex]; exact ⟨rfl, rfl⟩
  · obtain ⟨_, _, _, _, _, _, _, c8, _, _, c20⟩ := q2
    rcases q4 with ⟨w, _⟩ | ⟨_, _, _, j2, _, _, _, _, _, ar, _⟩
    · rw [w]; exact ⟨c8, c20⟩
    · exact ⟨(ar 8 (by omega) (by decide) (by decide) (by decide) (by decide)).trans c8, (ar 20 (by omega) (by decide) (by decide) (by decide) (by decide)).trans c20⟩
end QIF4
section QIF5
variable {X Y Z : XT} {N T : Nat}
theorem qz_st_ifSubmitted (hN : 100000 ≤ N) : m_st_ifSubmitted N qz_Inv := by
  intro i X Y hi hI v1 u hu
  have hI0 := hI
  obtain ⟨⟨n, p, f, e, t, h, hfe, hT⟩, _⟩ := hI0
  have hn0 := qzR_nn h
  have hp0 := (qzR_pn h).1
  have hpn := (qzR_pn h).2.2 (by decide)
  have hqb := qzR_qb h
  have hY6 : Y 1 6 = nI n := qzR_ny h
  unfold f_X7_ifSubmitted f_X8_ifSubmitted f_X3_refusalOfAnyEntry f_X3_isRecords f_X8_within f_X0_isFull
  by_cases h1 : v1 < 1
  · rw [if_pos h1, if_pos h1, qz_bi, qz_bi, if_pos rfl, if_pos rfl, qz_bi, if_neg (by decide)]
    exact ⟨_, X, Y, rfl, rfl, qz_Inv_s hI⟩
  by_cases h2 : 8 < v1
  · rw [if_neg h1, if_neg h1, if_pos h2, if_pos h2, qz_bi, qz_bi, if_pos rfl, if_pos rfl, qz_bi, if_neg (by decide)]
    exact ⟨_, X, Y, rfl, rfl, qz_Inv_s hI⟩
  obtain ⟨r0, r1, r2, rfl⟩ := (qz_within (v := v1) (a := 1) (c := 8) (u := 1) (w := 8) rfl rfl (by omega) (by omega)).mp ⟨h1, h2⟩
  rw [if_neg h1, if_neg h1, if_neg h2, if_neg h2, qz_bi, qz_bi, if_neg qz_10, if_neg qz_10, qz_rdY (v := 6) (w := 6) rfl (by omega), hY6, qzR_nx h, show (150 : Int32) = nI 150 from rfl]
  by_cases hn : n = 150
  · rw [hn, if_neg (nI_nlt (Nat.le_refl _) (by omega)), if_pos rfl, qz_bi, if_neg qz_10, qz_bi, if_neg (by decide)]
    exact ⟨_, X, Y, rfl, rfl, qz_Inv_s hI⟩
  rw [if_pos (nI_lt (show n < 150 by omega) (by omega)), if_neg (fun q => hn ((nI_eq (by omega) (by omega)).mp q)), qz_bi, if_pos rfl]
  have hfree := qz_free (Z := Y) h (show 200 ≤ N by omega)
  rw [qz_ue] at hfree
  rcases hfree with ⟨a1, a2⟩ | ⟨c0, hc, a2, a3, m, m1, m2⟩
  · rw [a1, a2, qz_bi, qz_bi, if_pos rfl, if_pos (show nI 12 = 12 from rfl), qz_bi, if_neg (by decide)]
    exact ⟨_, X, Y, rfl, rfl, qz_Inv_s hI⟩
  rw [a3, m2, qz_bi, qz_bi, if_neg (qz_n5 (by omega)), if_neg (show ¬ nI m = 12 from fun q => by have := (nI_eq (b := 12) (by omega) (by omega)).mp q; omega), qz_bi, if_pos rfl, qz_bis]
  obtain ⟨YA, b1, b2, b3⟩ := qz_aside (N := N) hI (by omega)
  obtain ⟨X3, y3, p3, f3, e3, j0, XM, yM, s1, s2, s3, s4, s5, s6, s7, s8, s9, s10, s11, s12, s13⟩ := qz_submit (Z := YA) (u := u) h hfe (show 200 ≤ N by omega) (show n < 150 by omega) hc ⟨r1, r2⟩ a2 hu
  rw [← b2, qz_ue] at s2
  have hp30 := (qzR_pn s3).1
  have ht : t < 2 ^ 27 := by omega
  have hj : j0 < p3 := by omega
  obtain ⟨d, d1, d2⟩ := qz_entD s6 (by omega) hj s9 s10
  have hd := qz_D_le s3 (by omega) hj d1
  obtain ⟨w8, w20⟩ := qz_ent_rows s10
  have hop : ¬ 4 ≤ y3 (16 + 8 * n + 3) := (qz_open_iff s3 (show n < n + 1 by omega)).mpr ⟨c0, hc, by rw [w20]; exact s11⟩
  obtain ⟨y4, g1⟩ := qz_ticksFor_l (Z := YA) (N := N) (by omega) d N 0 X3 y3 (n + 1) p3 f3 e3 t j0 s3 s4 (by omega) (show n < n + 1 by omega) hop hj (by rw [w8]; exact s12) d1 (by omega)
  rw [nI_0, Nat.zero_add] at g1
  obtain ⟨YF, g2, g3⟩ := b3 y4
  have hcls : f_X3_ticksIfEntered N (nI r0) u X = some (nI d, X) := by
    unfold f_X3_ticksIfEntered
    rw [qz_nm]
    rcases s13 with ⟨z1, z2⟩ | ⟨z1, z2, z3⟩
    · rw [z1, if_neg (qz_n5 (show j0 < 2 ^ 31 by omega))]
      rcases qzR_ga h with v8 | ⟨j2, v1, v2, v3, v4, E, v5, v6⟩
      · exact absurd (v8.symm.trans ((qzR_gx h).symm.trans z1)) (qz_5n (by omega))
      have hjj : nI j2 = nI j0 := v2.symm.trans ((qzR_gx h).symm.trans z1)
      have hj2 : j2 = j0 := (nI_eq (by omega) (by omega)).mp hjj
      subst hj2
      have hjp : j2 < p := by omega
      rw [qz_recordsG (qzR_px h) hjp hp0, qz_bi, qz_nm, v4, v6]
      have e0 : XM 0 = X 0 := by rw [z2]; rfl
      have e18 : XM 18 = X 18 := by rw [z2]; rfl
      have e16 : XM 16 = X 16 := by rw [z2]; rfl
      have e13 : ∀ j : Nat, j ≠ j2 → XM 13 j = X 13 j := fun j hjn => by rw [z2]; exact qz_uo hjn
      have e13b : XM 13 j2 = X 13 j2 + nI r0 := by rw [z2]; exact qz_us
      refine qz_ifC (E := E) h (by omega) (by omega) s6 hj ?_ e18 (qz_qs_add h e13 e16 e18 (fun j _ q hq => ?_) (e - f) (by omega)) (by rw [e0]) (by rw [e0, v4, v6]) (by omega) (by rw [e13b, Int32.add_comm]) hu d2
      · unfold qz_L; rw [e0]
      · rw [hq, v3] at q
        exact absurd q (by decide)
    · rw [z1, if_pos rfl]
      obtain ⟨w, v1, v2⟩ := qzR_wr h
      have e9 : X 0 6 + X 0 7 = nI (t + w) := by rw [qzR_tx h, qzR_wx h, v2, nI_add]
      rw [e9]
      subst z2
      have e06 : XM 0 6 = X 0 6 := by rw [z3]; rfl
      have e09 : XM 0 9 = X 0 6 + X 0 7 := by rw [z3]; rfl
      have e10 : XM 0 10 = X 0 10 := by rw [z3]; rfl
      have e11 : XM 0 11 = X 0 11 := by rw [z3]; rfl
      have e18 : XM 18 = X 18 := by rw [z3]; rfl
      have e16 : XM 16 = X 16 := by rw [z3]; rfl
      have e13 : ∀ j : Nat, j ≠ j0 → XM 13 j = X 13 j := fun j hjn => by
        rw [z3]
        show upd (upd (X 13) j0 0) j0 (upd (X 13) j0 0 j0 + nI r0) j = X 13 j
        rw [qz_uo hjn, qz_uo hjn]
      have e13b : XM 13 j0 = nI r0 := by
        rw [z3]
        show upd (upd (X 13) j0 0) j0 (upd (X 13) j0 0 j0 + nI r0) j0 = nI r0
        rw [qz_us, qz_us, Int32.zero_add]
      refine qz_ifC (E := t + w) h (by omega) (by omega) s6 hj ?_ e18 (qz_qs_add h e13 e16 e18 (fun j hjp _ => by omega) (e - f) (by omega)) e06 (by rw [e09, e9]) (by omega) e13b hu d2
      unfold qz_L; rw [e10, e11]
  unfold f_X8_ticksFor
  rw [hcls, b1, qz_bv, s2, qz_bi, g1, qz_bi, g2, qz_bv]
  exact ⟨_, X, YF, rfl, rfl, qz_Inv_s g3⟩
end QIF5
