-- idleIn
section QID
variable {X Y Z : XT} {N T : Nat}
theorem qz_busy_nat (y : Nat → Int32) : ∀ n : Nat, ∃ c : Nat, c ≤ n ∧ qz_sum (fun i => if 4 ≤ y (16 + 8 * i + 3) then 0 else 1) n = nI c ∧ (c = 0 → ∀ k : Nat, k < n → 4 ≤ y (16 + 8 * k + 3))
  | 0 => ⟨0, Nat.le_refl _, rfl, fun _ k hk => absurd hk (Nat.not_lt_zero _)⟩
  | n + 1 => by
    obtain ⟨c, h1, h2, h3⟩ := qz_busy_nat y n
    have e1 : qz_sum (fun i => if 4 ≤ y (16 + 8 * i + 3) then 0 else 1) (n + 1) = qz_sum (fun i => if 4 ≤ y (16 + 8 * i + 3) then 0 else 1) n + (if 4 ≤ y (16 + 8 * n + 3) then 0 else 1) := rfl
    rw [e1, h2]
    by_cases q : 4 ≤ y (16 + 8 * n + 3)
    · refine ⟨c, by omega, by rw [if_pos q, Int32.add_zero], fun h0 k hk => ?_⟩
      by_cases e2 : k = n
      · rw [e2]; exact q
      · exact h3 h0 k (by omega)
    · exact ⟨c + 1, by omega, by rw [if_neg q, nI_1], fun h0 => absurd h0 (by omega)⟩
def qz_P (X : XT) (y : Nat → Int32) (n p f e t M : Nat) : Prop := (∀ k j d : Nat, k < n → ¬ 4 ≤ y (16 + 8 * k + 3) → j < p → X 8 k = nI j → qz_D X f e t (nI j) d → d ≤ M) ∧ (M = 0 ∨ ∃ k j : Nat, k < n ∧ ¬ 4 ≤ y (16 + 8 * k + 3) ∧ j < p ∧ X 8 k = nI j ∧ qz_D X f e t (nI j) M)
theorem qz_idle_l (hN : 200 ≤ N) : ∀ (M fuel v : Nat) (X : XT) (y : Nat → Int32) (n p f e t : Nat), qz_R X y n p f e t 0 → (y 9 = -5 → f = e) → t + M < 2 ^ 28 → qz_P X y n p f e t M → M < fuel → ∃ y3 : Nat → Int32, f_X8_idleIn_6 N fuel (nI v) (m_up Z 1 y) = f_X8_idleIn_24 N (nI (v + M)) (m_up Z 1 y3) := by
  intro M
  induction M with
  | zero =>
    intro fuel v X y n p f e t h hfe ht hP hF
    obtain ⟨F, rfl⟩ : ∃ F, fuel = F + 1 := ⟨fuel - 1, by omega⟩
    have hz : qz_sum (fun i => if 4 ≤ y (16 + 8 * i + 3) then 0 else 1) n = 0 := qz_sum_0 n (fun k hk => by
      by_cases q : 4 ≤ y (16 + 8 * k + 3)
      · exact if_pos q
      · obtain ⟨j, d, hj, hX8, hD⟩ := qz_D_ex h hk q
        have a := hP.1 k j d hk q hj hX8 hD
        have c := qz_D_le h (by omega) hj hD
        omega)
    rw [f_X8_idleIn_6, qz_busyMany (qzR_ny h) (qzR_nn h) hN, qz_bi, hz, if_pos (by decide)]
    exact ⟨y, rfl⟩
  | succ M ih =>
    intro fuel v X y n p f e t h hfe ht hP hF
    have hn0 := qzR_nn h
    have hp0 := (qzR_pn h).1
    obtain ⟨F, rfl⟩ : ∃ F, fuel = F + 1 := ⟨fuel - 1, by omega⟩
    obtain ⟨c, c1, c2, c3⟩ := qz_busy_nat y n
    obtain ⟨k0, j0, k1, k2, k3, k4, k5⟩ : ∃ k j : Nat, k < n ∧ ¬ 4 ≤ y (16 + 8 * k + 3) ∧ j < p ∧ X 8 k = nI j ∧ qz_D X f e t (nI j) (M + 1) := by
      rcases hP.2 with q | q
      · omega
      · exact q
    have hc0 : 0 < c := by
      rcases Nat.eq_zero_or_pos c with q | q
      · exact absurd (c3 q k0 k1) k2
      · exact q
    obtain ⟨r, X2, y2, f2, e2, t1, t2, t3, t4, t5, XA, yA, u1, u2, u3, u4, u5⟩ := qz_tick (Z := Z) h (by omega) hN
    have hP2 : qz_P X2 y2 n p f2 e2 (t + 1) M := by
      refine ⟨fun k j d hk hop hj hX8 hD => ?_, ?_⟩
      · obtain ⟨o1, o2⟩ := qz_open_tick h u2 u5 t3 hk
        obtain ⟨w1, w2⟩ := o2.mp hop
        rw [o1] at hX8
        obtain ⟨j2, d2, hj2, hX82, hD2⟩ := qz_D_ex h hk w1
        have ej : j2 = j := (nI_eq (by omega) (by omega)).mp (hX82.symm.trans hX8)
        subst ej
        have a := hP.1 k j2 d2 hk w1 hj hX8 hD2
        rcases qz_D_tick h hfe (by omega) u1 u2 u5 hj hD2 with ⟨q1, q2, _⟩ | ⟨q1, q2⟩
        · exact absurd ⟨q1.trans hX8.symm, q2⟩ w2
        · have b1 := qz_tw (N := N) t3 (by omega) hN hj hD
          have b2 := qz_tw (N := N) t3 (by omega) hN hj q2
          rw [b1] at b2
          have b3 := qz_D_le t3 (by omega) hj hD
          have b4 : nI d = nI (d2 - 1) := by
            have := Option.some.inj b2
            exact congrArg Prod.fst this
          have b5 := qz_D_le t3 (by omega) hj q2
          have := (nI_eq (by omega) (by omega)).mp b4
          omega
      · rcases Nat.eq_zero_or_pos M with q | q
        · exact Or.inl q
        · obtain ⟨o1, o2⟩ := qz_open_tick h u2 u5 t3 k1
          rcases qz_D_tick h hfe (by omega) u1 u2 u5 k3 k5 with ⟨_, _, q3⟩ | ⟨q1, q2⟩
          · omega
          · refine Or.inr ⟨k0, j0, k1, o2.mpr ⟨k2, fun ⟨a1, a2⟩ => ?_⟩, k3, by rw [o1]; exact k4, by rw [Nat.add_sub_cancel] at q2; exact q2⟩
            rcases k5 with ⟨b1, b2⟩ | ⟨b1, _⟩ | ⟨b1, _⟩
            · omega
            · exact b1 (a1.trans k4)
            · exact b1 (a1.trans k4)
    obtain ⟨y3, e3⟩ := ih F (v + 1) X2 y2 n p f2 e2 (t + 1) t3 t5 (by omega) hP2 (by omega)
    rw [f_X8_idleIn_6, qz_busyMany (qzR_ny h) hn0 hN, qz_bi, c2, if_neg (nI_nle hc0 (by omega)), t2, qz_bi, qz_nm, nI_1, e3]
    exact ⟨y3, by rw [show v + 1 + M = v + (M + 1) by omega]⟩
theorem qz_idleC_l {y : Nat → Int32} {n p f e t : Nat} (h : qz_R X y n p f e t 0) (ht : t < 2 ^ 28) (hN : 200 ≤ N) : ∀ fuel c M : Nat, c ≤ 12 → 12 - c < fuel → M ≤ 70000 → ∃ M2 : Nat, f_X3_ticksToIdle_4 N fuel (nI M) (nI c) X = some (nI M2, X) ∧ M ≤ M2 ∧ M2 ≤ 70000 ∧ (∀ i k j d : Nat, c ≤ i → i < 12 → X 20 i = nI k → k < n → j < p → X 8 k = nI j → qz_D X f e t (nI j) d → d ≤ M2) ∧ (M2 = M ∨ ∃ i k j : Nat, c ≤ i ∧ i < 12 ∧ X 20 i = nI k ∧ k < n ∧ j < p ∧ X 8 k = nI j ∧ qz_D X f e t (nI j) M2) := by
  have hn0 := qzR_nn h
  have hp0 := (qzR_pn h).1
  intro fuel
  induction fuel with
  | zero => intro c M _ q; omega
  | succ F ih =>
    intro c M hc hF hM
    rw [f_X3_ticksToIdle_4, show (12 : Int32) = nI 12 from rfl]
    by_cases e1 : c = 12
    · subst e1
      rw [if_pos (nI_le (Nat.le_refl _) (by omega))]
      exact ⟨M, rfl, Nat.le_refl _, hM, fun i k j d a1 a2 => absurd a2 (by omega), Or.inl rfl⟩
    · rw [if_neg (nI_ge (by omega) (by omega))]
      unfold f_X3_ticksToAnswer
      rw [qz_openC (show c < 12 by omega), qz_bi]
      rcases qzR_oc h c (by omega) with ⟨w1, _⟩ | ⟨k, w1, w2, w3, w4⟩
      · have hm : (if nI M < (-5 : Int32) then (-5 : Int32) else nI M) = nI M := if_neg (by
          rw [Int32.lt_iff_toInt_lt, nI_toInt (by omega), show (-5 : Int32).toInt = -5 by decide]
          omega)
        rw [if_pos w1, qz_bi, hm, qz_nm, qz_nm, nI_1]
        obtain ⟨M2, m1, m2, m3, m4, m5⟩ := ih (c + 1) M (by omega) (by omega) hM
        refine ⟨M2, m1, m2, m3, fun i k j d a1 a2 a3 a4 => ?_, ?_⟩
        · have : i ≠ c := fun q => by
            rw [q, w1] at a3
            exact qz_5n (by omega) a3
          exact m4 i k j d (by omega) a2 a3 a4
        · rcases m5 with q | ⟨i, k, j, b1, b2⟩
          · exact Or.inl q
          · exact Or.inr ⟨i, k, j, by omega, b2⟩
      · obtain ⟨j, d, hj, hX8, hD⟩ := qz_D_ex h w1 w4
        have hd := qz_D_le h (by omega) hj hD
        have htw := qz_tw (N := N) h (by omega) hN hj hD
        have hne : ¬ nI k = (-5 : Int32) := qz_n5 (by omega)
        rw [w2, if_neg hne, qz_groupOf (qzR_nx h) w1 hn0, qz_bi, hX8, htw, qz_bi, qz_bi, qz_maxN (by omega) (by omega), qz_nm, qz_nm, nI_1]
        obtain ⟨M2, m1, m2, m3, m4, m5⟩ := ih (c + 1) (max M d) (by omega) (by omega) (by omega)
        refine ⟨M2, m1, by omega, m3, fun i k2 j2 d2 a1 a2 a3 a4 a5 a6 a7 => ?_, ?_⟩
        · by_cases q : i = c
          · rw [q, w2, nI_eq (by omega) (by omega)] at a3
            rw [← a3, hX8, nI_eq (by omega) (by omega)] at a6
            rw [← a6] at a7
            have b2 := qz_tw (N := N) h (by omega) hN hj a7
            rw [htw] at b2
            have b3 := qz_D_le h (by omega) hj a7
            have b4 : nI d = nI d2 := congrArg Prod.fst (Option.some.inj b2)
            have := (nI_eq (by omega) (by omega)).mp b4
            omega
          · exact m4 i k2 j2 d2 (by omega) a2 a3 a4 a5 a6 a7
        · rcases m5 with q | ⟨i, k2, j2, b1, b2⟩
          · rcases Nat.lt_or_ge M d with u | u
            · rw [Nat.max_eq_right (by omega)] at q
              exact Or.inr ⟨c, k, j, Nat.le_refl _, by omega, w2, w1, hj, hX8, by rw [q]; exact hD⟩
            · rw [Nat.max_eq_left u] at q
              exact Or.inl q
          · exact Or.inr ⟨i, k2, j2, by omega, b2⟩
theorem qz_st_idleIn (hN : 100000 ≤ N) : m_st_idleIn N qz_Inv := by
  intro i X Y hi hI
  have hI0 := hI
  obtain ⟨⟨n, p, f, e, t, h, hfe, hT⟩, _⟩ := hI0
  have hn0 := qzR_nn h
  obtain ⟨M, m1, m2, m3, m4, m5⟩ := qz_idleC_l (N := N) h (by omega) (by omega) N 0 0 (by omega) (by omega) (by omega)
  have hP : qz_P X (Y 1) n p f e t M := by
    refine ⟨fun k j d hk hop hj hX8 hD => ?_, ?_⟩
    · obtain ⟨c, c1, c2⟩ := (qz_open_iff h hk).mp hop
      exact m4 c k j d (Nat.zero_le _) c1 c2 hk hj hX8 hD
    · rcases m5 with q | ⟨c, k, j, _, b2, b3, b4, b5, b6, b7⟩
      · exact Or.inl q
      · exact Or.inr ⟨k, j, b4, (qz_open_iff h b4).mpr ⟨c, b2, b3⟩, b5, b6, b7⟩
  obtain ⟨YA, a1, a2, a3⟩ := qz_aside (N := N) hI (by omega)
  obtain ⟨y3, b1⟩ := qz_idle_l (Z := YA) (N := N) (by omega) M N 0 X (Y 1) n p f e t h hfe (by omega) hP (by omega)
  rw [← a2, qz_ue, nI_0, Nat.zero_add] at b1
  obtain ⟨YF, c1, c2⟩ := a3 y3
  rw [nI_0] at m1
  have hC : f_X7_idleIn N X = some (nI M, X) := by
    unfold f_X7_idleIn f_X3_ticksToIdle
    rw [m1, qz_bi]
  have hM : f_X8_idleIn N Y = some (nI M, YF) := by
    unfold f_X8_idleIn
    rw [a1, qz_bv, b1]
    unfold f_X8_idleIn_24
    rw [c1, qz_bv]
  exact ⟨_, X, YF, hC, hM, qz_Inv_s c2⟩
end QID
