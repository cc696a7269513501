-- answeredIn
section QAN
variable {X Y Z : XT} {N T : Nat}
/-- the model puts its state aside and takes it back -/
theorem qz_aside (hI : qz_I T X Y) (hN : 6000 ≤ N) : ∃ YA : XT, f_X8_putAside N Y = some YA ∧ YA 1 = Y 1 ∧ ∀ y3 : Nat → Int32, ∃ YF : XT, f_X8_takeBack N (m_up YA 1 y3) = some YF ∧ qz_I T X YF := by
  have h1 := qz_aside2 (N := N) (Y := Y) (z := Y 2) N 0 (by omega) (by omega)
  rw [qz_c0_0, qz_ue, nI_0] at h1
  refine ⟨_, h1, qz_un _ _ (by decide), fun y3 => ?_⟩
  have h2 := qz_back2 (N := N) (Y := m_up (m_up Y 2 (qz_c0 (Y 2) (Y 1) 0 0 1816)) 1 y3) (z := m_up (m_up Y 2 (qz_c0 (Y 2) (Y 1) 0 0 1816)) 1 y3 1) N 0 (by omega) (by omega)
  rw [qz_c0_0, qz_ue, nI_0] at h2
  refine ⟨_, h2, ?_⟩
  obtain ⟨hS, hs, ⟨o, h, a1, a2, a3, a4, a5, a6⟩, ⟨l, b1, b2, b3, b4⟩⟩ := hI
  refine ⟨?_, ?_, ⟨o, h, a1, a2, a3, a4, ?_, fun i hi => ?_⟩, ⟨l, b1, b2, ?_, fun q hq => ?_⟩⟩
  · rw [qz_up]
    refine qz_S_cp hS qz_cp_rf (fun a ha => ?_)
    have q := qz_c0_in (z := m_up (m_up Y 2 (qz_c0 (Y 2) (Y 1) 0 0 1816)) 1 y3 1) (y := m_up (m_up Y 2 (qz_c0 (Y 2) (Y 1) 0 0 1816)) 1 y3 2) (off := 0) (dst := 0) ha
    rw [Nat.zero_add] at q
    rw [q, qz_un _ _ (show (2 : Nat) ≠ 1 by decide), qz_up]
    have q2 := qz_c0_in (z := Y 2) (y := Y 1) (off := 0) (dst := 0) ha
    rw [Nat.zero_add] at q2
    exact q2
  · rcases hs with ⟨u1, u2⟩ | ⟨u1, u2, u3⟩
    · exact Or.inl ⟨u1, by rw [qz_un _ _ (by decide), qz_un _ _ (by decide), qz_un _ _ (by decide)]; exact u2⟩
    · refine Or.inr ⟨u1, by rw [qz_un _ _ (by decide), qz_un _ _ (by decide), qz_un _ _ (by decide)]; exact u2, ?_⟩
      exact qz_S_cp u3 qz_cp_rf (fun a _ => by rw [qz_un _ _ (by decide), qz_un _ _ (by decide), qz_un _ _ (by decide)])
  · rw [qz_un _ _ (by decide), qz_un _ _ (by decide), qz_un _ _ (by decide)]; exact a5
  · exact qz_S_cp (a6 i hi) qz_cp_rf (fun a _ => by rw [qz_un _ _ (by decide), qz_un _ _ (by decide), qz_un _ _ (by decide)])
  · rw [qz_un _ _ (by decide), qz_un _ _ (by decide), qz_un _ _ (by decide)]; exact b3
  · rw [qz_un _ _ (show (5 : Nat) ≠ 1 by decide), qz_un _ _ (show (5 : Nat) ≠ 1 by decide), qz_un _ _ (show (5 : Nat) ≠ 2 by decide)]
    exact b4 q hq
theorem qz_st_answeredIn (hN : 100000 ≤ N) : m_st_answeredIn N qz_Inv := by
  intro i X Y hi hI v1
  have hI0 := hI
  obtain ⟨⟨n, p, f, e, t, h, hfe, hT⟩, _⟩ := hI0
  have hn0 := qzR_nn h
  unfold f_X7_answeredIn f_X8_answeredIn
  rcases qz_client (N := N) (X := X) v1 with ⟨c0, hc, rfl⟩ | ⟨q1, q2⟩
  · have q := qz_openM (Z := Y) h (show 200 ≤ N by omega) hc
    rw [qz_ue] at q
    rw [qz_isClientC hc, qz_clientM hc, qz_bi, qz_bi, if_neg qz_10, if_neg qz_10, qz_bis, q, qz_bi]
    unfold f_X3_ticksToAnswer
    rw [qz_openC hc, qz_bi]
    rcases qzR_oc h c0 hc with ⟨w1, _⟩ | ⟨k, w1, w2, w3, w4⟩
    · rw [if_pos w1, if_pos w1]
      exact ⟨_, X, Y, rfl, rfl, qz_Inv_s hI⟩
    · obtain ⟨j, d, hj, hX8, hD⟩ := qz_D_ex h w1 w4
      have hd := qz_D_le h (by omega) hj hD
      obtain ⟨YA, a1, a2, a3⟩ := qz_aside (N := N) hI (by omega)
      obtain ⟨y3, b1⟩ := qz_ticksFor_l (Z := YA) (N := N) (by omega) d N 0 X (Y 1) n p f e t j h hfe (by omega) w1 w4 hj hX8 hD (by omega)
      rw [← a2, qz_ue, nI_0, Nat.zero_add] at b1
      obtain ⟨YF, c1, c2⟩ := a3 y3
      have hne : ¬ nI k = (-5 : Int32) := qz_n5 (by omega)
      unfold f_X8_ticksFor
      rw [w2, if_neg hne, if_neg hne, qz_groupOf (qzR_nx h) w1 hn0, qz_bi, hX8, qz_bis, qz_tw h (by omega) (by omega) hj hD, a1, qz_bv, b1, qz_bi, c1, qz_bv]
      exact ⟨_, X, YF, rfl, rfl, qz_Inv_s c2⟩
  · rw [q1, q2, qz_bi, qz_bi, if_pos rfl, if_pos rfl]
    exact ⟨_, X, Y, rfl, rfl, qz_Inv_s hI⟩
end QAN
