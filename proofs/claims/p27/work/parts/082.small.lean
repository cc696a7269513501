-- open commits, refusals, many ticks
section QS
variable {X Z : XT} {y : Nat → Int32} {N n p f e t b c0 : Nat}
theorem qz_openV (h : qz_R X y n p f e t b) (hc : c0 < 12) : qz_at (fun i => y (16 + 8 * i + 0) = nI c0 ∧ ¬ 4 ≤ y (16 + 8 * i + 3)) n 0 0 = X 20 c0 := by
  rcases qz_at_0 (P := fun i => y (16 + 8 * i + 0) = nI c0 ∧ ¬ 4 ≤ y (16 + 8 * i + 3)) n 0 with ⟨h1, h2⟩ | ⟨i, h1, h2, h3, h4, h5⟩
  · rw [h1]
    rcases qzR_oc h c0 hc with ⟨q1, _⟩ | ⟨k, q1, q2, q3, q4⟩
    · exact q1.symm
    · exact absurd ⟨q3, q4⟩ (h2 k (Nat.zero_le _) (by omega))
  · rw [h4]
    rcases qzR_oc h c0 hc with ⟨q1, q2⟩ | ⟨k, q1, q2, q3, q4⟩
    · exact absurd h3.1 (q2 i (by omega) h3.2)
    · rw [q2, qzR_ou h i k (by omega) q1 (h3.1.trans q3.symm) h3.2 q4]
theorem qz_openM (h : qz_R X y n p f e t b) (hN : 200 ≤ N) (hc : c0 < 12) : f_X8_openOf N (nI c0) (m_up Z 1 y) = some (X 20 c0, m_up Z 1 y) := by
  rw [qz_openOf (qzR_ny h) (qzR_nn h) hN, qz_openV h hc]
theorem qz_isClientC (hc : c0 < 12) : f_X3_isClient N (nI c0) X = some (1, X) := by
  unfold f_X3_isClient
  rw [if_neg (nI_pos (by omega)), show (12 : Int32) = nI 12 from rfl, if_neg (nI_ge hc (by omega))]
theorem qz_openC (hc : c0 < 12) : f_X3_openCommitOf N (nI c0) X = some (X 20 c0, X) := by
  unfold f_X3_openCommitOf
  rw [qz_isClientC hc, qz_bi, if_neg (by decide), qz_gd (qz_in hc (by omega))]
  simp only [nI_clamp (show c0 < 2 ^ 31 by omega)]
  rw [qz_nm]
theorem qz_ltle {v : Int32} {a : Nat} (ha : a < 2 ^ 30) : nI a < v ↔ nI (a + 1) ≤ v := by
  rw [Int32.lt_iff_toInt_lt, Int32.le_iff_toInt_le, nI_toInt (by omega), nI_toInt (by omega)]
  omega
theorem qz_within {v : Int32} {a c : Nat} {u w : Int32} (hu : u = nI a) (hw : w = nI c) (hc : c < 2 ^ 30) (ha : a < 2 ^ 30) : (¬ v < u ∧ ¬ w < v) ↔ ∃ j : Nat, a ≤ j ∧ j ≤ c ∧ v = nI j := by
  subst hu hw
  constructor
  · rintro ⟨h1, h2⟩
    rw [Int32.lt_iff_toInt_lt, nI_toInt (by omega)] at h1 h2
    refine ⟨v.toInt.toNat, by omega, by omega, ?_⟩
    apply Int32.toInt_inj.mp
    rw [nI_toInt (by omega)]
    omega
  · rintro ⟨j, h1, h2, h3⟩
    rw [h3]
    exact ⟨nI_nlt h1 (by omega), nI_nlt h2 (by omega)⟩
/-- the class and the model ask alike whether a client is one -/
theorem qz_client (v : Int32) : (∃ c0 : Nat, c0 < 12 ∧ v = nI c0) ∨ (f_X3_isClient N v X = some (0, X) ∧ ∀ W : XT, f_X8_isClient N v W = some (0, W)) := by
  by_cases h1 : v < 0
  · refine Or.inr ⟨?_, fun W => ?_⟩
    · unfold f_X3_isClient; rw [if_pos h1]
    · unfold f_X8_isClient f_X8_within; rw [if_pos h1, qz_bi, qz_gd (Or.inl rfl)]
  · by_cases h2 : 11 < v
    · refine Or.inr ⟨?_, fun W => ?_⟩
      · unfold f_X3_isClient
        rw [if_neg h1, if_pos]
        exact (qz_ltle (a := 11) (by omega)).mp h2
      · unfold f_X8_isClient f_X8_within; rw [if_neg h1, if_pos h2, qz_bi, qz_gd (Or.inl rfl)]
    · obtain ⟨j, j1, j2, j3⟩ := (qz_within (v := v) (a := 0) (c := 11) (u := 0) (w := 11) rfl rfl (by omega) (by omega)).mp ⟨h1, h2⟩
      exact Or.inl ⟨j, by omega, j3⟩
theorem qz_clientM {W : XT} (hc : c0 < 12) : f_X8_isClient N (nI c0) W = some (1, W) := by
  unfold f_X8_isClient f_X8_within
  rw [if_neg (nI_pos (by omega)), show (11 : Int32) = nI 11 from rfl, if_neg (nI_nlt (by omega) (by omega)), qz_bi, qz_gd (Or.inr rfl)]
theorem qz_refuse (h : qz_R X y n p f e t b) (hN : 200 ≤ N) (v1 v2 : Int32) : ∃ r : Int32, f_X3_refusalToEnter N v1 v2 X = some (r, X) ∧ f_X8_whyNotSubmitted N v1 v2 (m_up Z 1 y) = some (r, m_up Z 1 y) ∧ (r = 0 → ∃ c0 r0 : Nat, c0 < 12 ∧ v1 = nI c0 ∧ 1 ≤ r0 ∧ r0 ≤ 8 ∧ v2 = nI r0 ∧ n < 150 ∧ X 20 c0 = -5) := by
  have hn0 := qzR_nn h
  unfold f_X3_refusalToEnter f_X8_whyNotSubmitted
  rcases qz_client (N := N) (X := X) v1 with ⟨c0, hc, rfl⟩ | ⟨q1, q2⟩
  · rw [qz_isClientC hc, qz_clientM hc, qz_bi, qz_bi, if_neg (by decide), if_neg (by decide)]
    unfold f_X3_isRecords f_X8_within
    by_cases h1 : v2 < 1
    · rw [if_pos h1, if_pos h1, qz_bi, qz_bi, if_pos rfl, if_pos rfl]
      exact ⟨-2, rfl, rfl, fun q => absurd q (by decide)⟩
    · by_cases h2 : 8 < v2
      · rw [if_neg h1, if_neg h1, if_pos h2, if_pos h2, qz_bi, qz_bi, if_pos rfl, if_pos rfl]
        exact ⟨-2, rfl, rfl, fun q => absurd q (by decide)⟩
      · rw [if_neg h1, if_neg h1, if_neg h2, if_neg h2, qz_bi, qz_bi, if_neg (by decide), if_neg (by decide), qz_openC hc, qz_openM h hN hc, qz_bi, qz_bi]
        by_cases h3 : X 20 c0 = -5
        · rw [if_pos h3, if_pos h3, qz_rd (v := 6) (w := 6) rfl (by omega), qzR_ny h]
          unfold f_X0_isFull
          rw [qzR_nx h, show (150 : Int32) = nI 150 from rfl]
          by_cases h4 : n = 150
          · rw [h4, if_neg (nI_nlt (Nat.le_refl _) (by omega)), qz_bi, if_neg (by decide), if_pos rfl]
            exact ⟨-3, rfl, rfl, fun q => absurd q (by decide)⟩
          · rw [if_pos (nI_lt (by omega) (by omega)), qz_bi, if_pos rfl, if_neg (fun q => h4 ((nI_eq (by omega) (by omega)).mp q))]
            obtain ⟨j, j1, j2, j3⟩ := (qz_within (v := v2) (a := 1) (c := 8) (u := 1) (w := 8) rfl rfl (by omega) (by omega)).mp ⟨h1, h2⟩
            exact ⟨0, rfl, rfl, fun _ => ⟨c0, j, hc, rfl, j1, j2, j3, by omega, h3⟩⟩
        · rw [if_neg h3, if_neg h3]
          exact ⟨-4, rfl, rfl, fun q => absurd q (by decide)⟩
  · rw [q1, q2, qz_bi, qz_bi, if_pos rfl, if_pos rfl]
    exact ⟨-1, rfl, rfl, fun q => absurd q (by decide)⟩
/-- the state, as calls see it -/
def qz_S (T : Nat) (X : XT) (y : Nat → Int32) : Prop := ∃ n p f e t : Nat, qz_R X y n p f e t 0 ∧ (y 9 = -5 → f = e) ∧ t ≤ T
theorem qz_S_le {T T2 : Nat} (hT : T ≤ T2) (h : qz_S T X y) : qz_S T2 X y := by
  obtain ⟨n, p, f, e, t, h1, h2, h3⟩ := h
  exact ⟨n, p, f, e, t, h1, h2, by omega⟩
theorem qz_ticks_l {m : Nat} (hm : m < 2 ^ 20) (hN : 200 ≤ N) : ∀ (fuel k T : Nat) (v : Int32) (X : XT) (y : Nat → Int32), k ≤ m → m - k < fuel → T + m < 2 ^ 28 + k → qz_S T X y → ∃ (r : Int32) (X2 : XT) (y2 : Nat → Int32), f_X3_passTicks_4 N fuel (nI m) v (nI k) X = some (r, X2) ∧ f_X8_ticks_4 N fuel (nI m) v (nI k) (m_up Z 1 y) = some (r, m_up Z 1 y2) ∧ qz_S (T + (m - k)) X2 y2 ∧ qz_fr X X2 := by
  intro fuel
  induction fuel with
  | zero => intro k T v X y _ h; omega
  | succ F ih =>
    intro k T v X y hk hF hT hS
    rw [f_X3_passTicks_4, f_X8_ticks_4]
    by_cases e1 : k = m
    · subst e1
      rw [if_pos (nI_le (Nat.le_refl _) (by omega)), if_pos (nI_le (Nat.le_refl _) (by omega))]
      exact ⟨v, X, y, rfl, rfl, qz_S_le (by omega) hS, qz_fr_rf⟩
    · rw [if_neg (nI_ge (by omega) (by omega)), if_neg (nI_ge (by omega) (by omega))]
      obtain ⟨n, p, f, e, t, h1, h2, h3⟩ := hS
      obtain ⟨r, X2, y2, f2, e2, t1, t2, t3, t4, t5, _⟩ := qz_tick (Z := Z) h1 (by omega) hN
      obtain ⟨r3, X3, y3, u1, u2, u3, u4⟩ := ih (k + 1) (T + 1) (v + r) X2 y2 (by omega) (by omega) (by omega) ⟨n, p, f2, e2, t + 1, t3, t5, by omega⟩
      refine ⟨r3, X3, y3, ?_, ?_, qz_S_le (by omega) u3, qz_fr_tr t4 u4⟩
      · rw [t1, qz_bi, qz_nm, qz_nm, nI_1]; exact u1
      · rw [t2, qz_bi, qz_nm, qz_nm, nI_1]; exact u2
theorem qz_ticks {m T : Nat} (hm : m ≤ 99) (hT : T < 2 ^ 27) (hN : 200 ≤ N) (hS : qz_S T X y) : ∃ (r : Int32) (X2 : XT) (y2 : Nat → Int32), f_X3_passTicks N (nI m) X = some (r, X2) ∧ f_X8_ticks N (nI m) (m_up Z 1 y) = some (r, m_up Z 1 y2) ∧ qz_S (T + m) X2 y2 ∧ qz_fr X X2 :=
  qz_ticks_l (by omega) hN N 0 T 0 X y (by omega) (by omega) (by omega) hS
end QS
