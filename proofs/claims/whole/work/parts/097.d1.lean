-- how long until it is answered: the closed form
section QD1
variable {X Y Z : XT} {N n p f e t b : Nat} {y : Nat → Int32} {g : Int32}
def qz_L (X : XT) : Nat := if X 0 10 = -5 then 0 else (X 0 11).toNatClampNeg
def qz_cst (X : XT) (g : Int32) : Nat := (X 18 2 + X 13 g.toNatClampNeg / 4).toNatClampNeg
def qz_qs (X : XT) (f : Nat) : Nat → Nat
  | 0 => 0
  | m + 1 => qz_qs X f m + qz_cst X (X 16 (f + m))
def qz_D (X : XT) (f e t : Nat) (g : Int32) (d : Nat) : Prop :=
  (X 0 10 = g ∧ d = qz_L X) ∨ (X 0 10 ≠ g ∧ ∃ m : Nat, f + m < e ∧ X 16 (f + m) = g ∧ d = qz_L X + qz_qs X f (m + 1)) ∨ (X 0 10 ≠ g ∧ X 0 8 = g ∧ (∀ m : Nat, f + m < e → X 16 (f + m) ≠ g) ∧ d = max (qz_L X + qz_qs X f (e - f)) (max ((X 0 9).toNatClampNeg - t) 1) + qz_cst X g)
theorem qz_cst_n (h : qz_R X y n p f e t b) {j : Nat} (hj : j < p) : 1 ≤ qz_cst X (nI j) ∧ qz_cst X (nI j) ≤ 400 ∧ X 18 2 + X 13 j / 4 = nI (qz_cst X (nI j)) := by
  have hn0 := qzR_nn h
  have hp0 := (qzR_pn h).1
  obtain ⟨a, a1, a2, a3⟩ := qzR_s2 h
  obtain ⟨r, r1, r2⟩ := qz_rec_nat h (nI j)
  have e1 : X 18 2 + X 13 j / 4 = nI (a + r / 4) := by
    rw [qzR_sx h 2 (by omega), show y (2 + 2) = nI a from a3, qzR_g13 h j hj, r2, show (4 : Int32) = nI 4 from rfl, pk_div (by omega) (by omega) (by omega), nI_add]
  have e2 : qz_cst X (nI j) = a + r / 4 := by
    unfold qz_cst
    rw [nI_clamp (by omega), e1, nI_clamp (by omega)]
  rw [e2]
  exact ⟨by omega, by omega, e1⟩
theorem qz_L_n (h : qz_R X y n p f e t 0) : qz_L X ≤ 400 ∧ (X 0 10 ≠ -5 → 1 ≤ qz_L X ∧ X 0 11 = nI (qz_L X)) ∧ (X 0 10 = -5 → qz_L X = 0) := by
  have hp0 := (qzR_pn h).1
  unfold qz_L
  rcases qzR_wa h with q | ⟨j, w1, w2, w3, w4, L, w5, w6, w7⟩
  · rw [qzR_vx h, if_pos q]
    exact ⟨by omega, fun u => absurd q u, fun _ => rfl⟩
  · have hne : ¬ X 0 10 = -5 := by rw [qzR_vx h, w2]; exact qz_n5 (by omega)
    have e1 : X 0 11 = nI L := w4.trans w7
    rw [if_neg hne, e1, nI_clamp (by omega)]
    exact ⟨w6, fun _ => ⟨w5 (by decide), rfl⟩, fun q => absurd q hne⟩
theorem qz_qs_le (h : qz_R X y n p f e t b) : ∀ m : Nat, f + m ≤ e → m ≤ qz_qs X f m ∧ qz_qs X f m ≤ 400 * m
  | 0, _ => ⟨Nat.le_refl _, Nat.le_refl _⟩
  | m + 1, hm => by
    have ih := qz_qs_le h m (by omega)
    obtain ⟨j, j1, j2, _⟩ := qzR_qs h (f + m) (by omega) (by omega)
    have hc := qz_cst_n h j1
    show m + 1 ≤ qz_qs X f m + qz_cst X (X 16 (f + m)) ∧ qz_qs X f m + qz_cst X (X 16 (f + m)) ≤ 400 * (m + 1)
    rw [j2]
    omega
theorem qz_qs_s (X : XT) (f : Nat) : ∀ m : Nat, qz_qs X f (m + 1) = qz_cst X (X 16 f) + qz_qs X (f + 1) m
  | 0 => by
    show 0 + qz_cst X (X 16 (f + 0)) = qz_cst X (X 16 f) + 0
    rw [Nat.add_zero]
    omega
  | m + 1 => by
    have ih := qz_qs_s X f m
    show qz_qs X f (m + 1) + qz_cst X (X 16 (f + (m + 1))) = qz_cst X (X 16 f) + (qz_qs X (f + 1) m + qz_cst X (X 16 (f + 1 + m)))
    rw [ih, show f + (m + 1) = f + 1 + m by omega]
    omega
theorem qz_endW (h : qz_R X y n p f e t 0) : f_X3_ticksToEndOfWriting N X = some (nI (qz_L X), X) := by
  have hL := qz_L_n h
  unfold f_X3_ticksToEndOfWriting
  by_cases q : X 0 10 = -5
  · rw [if_pos q, hL.2.2 q]
    rfl
  · rw [if_neg q, (hL.2.1 q).2]
theorem qz_atQ (h : qz_R X y n p f e t b) {m : Nat} (hm : f + m < e) : f_X4_at N (nI m) X = some (X 16 (f + m), X) := by
  have hqb := qzR_qb h
  have hp0 := (qzR_pn h).1
  unfold f_X4_at
  rw [if_neg (nI_pos (by omega)), qz_sizeQ h, qz_bi, if_neg (nI_ge (by omega) (by omega)), qzR_qf h, nI_add, qz_nm, qz_gd (qz_in (by omega) (by omega)), nI_clamp (by omega), qz_nm]
theorem qz_maxE {E : Nat} (hE : E < 2 ^ 30) (ht : t < 2 ^ 30) : (if nI E - nI t < 1 then (1 : Int32) else nI E - nI t) = nI (max (E - t) 1) := by
  by_cases q : E ≤ t
  · rw [if_pos, Nat.max_eq_right (by omega)]
    · rfl
    · rw [Int32.lt_iff_toInt_lt, pk_sub_toInt (by omega) (by omega), show (1 : Int32).toInt = 1 from rfl]
      omega
  · have e1 : nI E - nI t = nI (E - t) := pk_sub (by omega)
    rw [e1, if_neg (show ¬ nI (E - t) < 1 from nI_nlt (a := E - t) (b := 1) (by omega) (by omega)), Nat.max_eq_left (by omega)]
theorem qz_maxN {a c : Nat} (ha : a < 2 ^ 30) (hc : c < 2 ^ 30) : (if nI a < nI c then nI c else nI a) = nI (max a c) := by
  by_cases q : a < c
  · rw [if_pos (nI_lt q (by omega)), Nat.max_eq_right (by omega)]
  · rw [if_neg (nI_nlt (by omega) (by omega)), Nat.max_eq_left (by omega)]
theorem qz_tw_l (h : qz_R X y n p f e t 0) (ht : t < 2 ^ 29) {j d : Nat} (hj : j < p) (hD : qz_D X f e t (nI j) d) (hne : X 0 10 ≠ nI j) : ∀ fuel m : Nat, f + m ≤ e → e - (f + m) < fuel → (∀ q : Nat, q < m → X 16 (f + q) ≠ nI j) → f_X3_ticksToWritten_17 N fuel (nI j) (nI (qz_L X + qz_qs X f m)) (nI m) X = some (nI d, X) := by
  have hp0 := (qzR_pn h).1
  have hqb := qzR_qb h
  have hL := qz_L_n h
  intro fuel
  induction fuel with
  | zero => intro m _ q; omega
  | succ F ih =>
    intro m hm hF hno
    rw [f_X3_ticksToWritten_17, qz_sizeQ h, qz_bi]
    by_cases e1 : f + m = e
    · rw [if_pos (nI_le (by omega) (by omega))]
      rcases hD with ⟨q, _⟩ | ⟨_, m2, q1, q2, _⟩ | ⟨_, q2, _, q3⟩
      · exact absurd q hne
      · exact absurd q2 (hno m2 (by omega))
      · have hE : ∃ E : Nat, E < 2 ^ 30 ∧ X 0 9 = nI E := by
          rcases qzR_ga h with u | ⟨j2, _, _, _, u4, E, u5, u6⟩
          · rw [qzR_gx h] at q2
            exact absurd (u.symm.trans q2) (qz_5n (by omega))
          · exact ⟨E, by omega, u4.trans u6⟩
        obtain ⟨E, hE1, hE2⟩ := hE
        have hqs := qz_qs_le h m (by omega)
        have hc := qz_cst_n h hj
        unfold f_X3_ticksToWritten_70
        rw [hE2, qzR_tx h, qz_nm, qz_maxE hE1 (by omega), qz_nm, qz_maxN (by omega) (by omega), qz_nm, qz_recordsG (qzR_px h) hj hp0, qz_bi, qz_ticksToWrite, qz_bi, hc.2.2, nI_add, qz_nm, q3, hE2, nI_clamp (by omega), show e - f = m by omega]
    · rw [if_neg (nI_ge (by omega) (by omega)), qz_atQ h (by omega), qz_bi]
      obtain ⟨j2, j3, j4, _⟩ := qzR_qs h (f + m) (by omega) (by omega)
      have hc := qz_cst_n h j3
      have hstep : qz_L X + qz_qs X f m + qz_cst X (nI j2) = qz_L X + qz_qs X f (m + 1) := by
        show _ = qz_L X + (qz_qs X f m + qz_cst X (X 16 (f + m)))
        rw [j4]
        omega
      rw [j4, qz_recordsG (qzR_px h) j3 hp0, qz_bi, qz_ticksToWrite, qz_bi, hc.2.2, nI_add, hstep, qz_nm, qz_atQ h (by omega), qz_bi, j4]
      by_cases e2 : nI j2 = nI j
      · rw [if_pos e2]
        rcases hD with ⟨q, _⟩ | ⟨_, m2, q1, q2, q3⟩ | ⟨_, _, q2, _⟩
        · exact absurd q hne
        · have hm2 : m2 = m := by
            rcases Nat.lt_trichotomy m2 m with u | u | u
            · exact absurd q2 (hno m2 u)
            · exact u
            · have := qzR_qi h (f + m) (f + m2) j j (by omega) (by omega) q1 (by omega) (by omega) (j4.trans e2) q2
              omega
          rw [q3, hm2]
        · exact absurd (j4.trans e2) (q2 m (by omega))
      · rw [if_neg e2, qz_nm, nI_1]
        refine ih (m + 1) (by omega) (by omega) (fun q hq => ?_)
        by_cases e3 : q = m
        · rw [e3, j4]; exact e2
        · exact hno q (by omega)
theorem qz_tw (h : qz_R X y n p f e t 0) (ht : t < 2 ^ 29) (hN : 200 ≤ N) {j d : Nat} (hj : j < p) (hD : qz_D X f e t (nI j) d) : f_X3_ticksToWritten N (nI j) X = some (nI d, X) := by
  have hp0 := (qzR_pn h).1
  have hqb := qzR_qb h
  unfold f_X3_ticksToWritten
  rw [qz_endW h, qz_bi]
  by_cases q : nI j = X 0 10
  · rw [if_pos q]
    rcases hD with ⟨_, u⟩ | ⟨u, _⟩ | ⟨u, _⟩
    · rw [u]
    · exact absurd q.symm u
    · exact absurd q.symm u
  · rw [if_neg q]
    exact qz_tw_l h ht hj hD (fun u => q u.symm) N 0 (by omega) (by omega) (fun q hq => absurd hq (by omega))
/-- every open commit's group has a closed form -/
theorem qz_D_ex (h : qz_R X y n p f e t b) {k : Nat} (hk : k < n) (hop : ¬ 4 ≤ y (16 + 8 * k + 3)) : ∃ j d : Nat, j < p ∧ X 8 k = nI j ∧ qz_D X f e t (nI j) d := by
  have hp0 := (qzR_pn h).1
  obtain ⟨j, hj, hg⟩ := qzR_kg h k hk
  obtain ⟨u, v⟩ := qzR_ko h k hk hop
  have hst := v j hj hg
  obtain ⟨s, s1, s2, s3⟩ := qzR_kw h k hk
  rw [s3] at hop hst
  have hs4 : s < 4 := by
    apply Nat.lt_of_not_le
    intro q
    exact hop ((qz_4le (by omega)).mpr q)
  have hX8 : X 8 k = nI j := (qzR_c8 h k hk).trans hg
  have h10 : X 0 10 = nI j ↔ s = 3 := by
    rw [qzR_vx h]
    have q := qz_writ h hj
    rw [hst] at q
    constructor
    · intro q1
      exact (nI_eq (b := 3) (by omega) (by omega)).mp (q.mp q1.symm)
    · intro q1
      exact (q.mpr (by rw [q1]; rfl)).symm
  have hc : s = 1 ∨ s = 2 ∨ s = 3 := by omega
  rcases hc with q | q | q
  · have g8 : X 0 8 = nI j := by
      rw [qzR_gx h]
      exact qzR_gu h j hj (by rw [hst, q]; rfl)
    refine ⟨j, _, hj, hX8, Or.inr (Or.inr ⟨fun w => absurd (h10.mp w) (by omega), g8, fun m hm w => ?_, rfl⟩)⟩
    obtain ⟨j2, w1, w2, w3⟩ := qzR_qs h (f + m) (by omega) hm
    rw [w, nI_eq (by omega) (by omega)] at w2
    rw [← w2, hst, q] at w3
    exact absurd w3 (by decide)
  · obtain ⟨i, i1, i2, i3⟩ := qzR_qc h j hj (by rw [hst, q]; rfl)
    exact ⟨j, _, hj, hX8, Or.inr (Or.inl ⟨fun w => absurd (h10.mp w) (by omega), i - f, by omega, by rw [show f + (i - f) = i by omega]; exact i3, rfl⟩)⟩
  · exact ⟨j, _, hj, hX8, Or.inl ⟨h10.mpr q, rfl⟩⟩
theorem qz_D_le (h : qz_R X y n p f e t 0) (ht : t < 2 ^ 29) {j d : Nat} (hj : j < p) (hD : qz_D X f e t (nI j) d) : 1 ≤ d ∧ d ≤ 70000 := by
  have hp0 := (qzR_pn h).1
  have hqb := qzR_qb h
  have hL := qz_L_n h
  have hc := qz_cst_n h hj
  rcases hD with ⟨q, u⟩ | ⟨_, m, q1, _, u⟩ | ⟨_, q2, _, u⟩
  · have hne : X 0 10 ≠ -5 := by rw [q]; exact qz_n5 (by omega)
    have := hL.2.1 hne
    omega
  · have := qz_qs_le h (m + 1) (by omega)
    omega
  · have := qz_qs_le h (e - f) (by omega)
    have hE : (X 0 9).toNatClampNeg ≤ t + 20 := by
      rcases qzR_ga h with w | ⟨j2, _, _, _, w4, E, w5, w6⟩
      · rw [qzR_gx h] at q2
        exact absurd (w.symm.trans q2) (qz_5n (by omega))
      · rw [w4, w6, nI_clamp (by omega)]
        exact w5
    omega
end QD1
