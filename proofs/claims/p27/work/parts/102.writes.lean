-- a write begins: the law's writes beside the model's goOn
section QL2
variable {N n p g k j : Nat} {X X2 Z : XT} {y y2 : Nat → Int32} {w : Int32}
theorem ql_mem_c (h1 : X2 132 = X 132) (h2 : X2 135 = X 135) : ql_mem X2 g n = ql_mem X g n := by
  unfold ql_mem
  rw [h1, h2]
theorem ql_tr_c (h1 : X2 132 = X 132) (h2 : X2 135 = X 135) : ql_tr X2 g w n = ql_tr X g w n := by
  unfold ql_tr ql_is
  rw [h1, h2]
theorem ql_tc_c (h1 : X2 132 = X 132) (h2 : X2 135 = X 135) : ql_tc X2 g n = ql_tc X g n := by
  unfold ql_tc ql_is
  rw [h1, h2]
theorem qw_idle (h7 : X 131 7 = nI p) (hp : p ≤ 46) (h9 : X 131 9 = nI j) (hj : j < 48) : ∀ d fuel k : Nat, k + d = p → d < fuel → f_L_writes_3 N fuel (nI k) X = some X := by
  intro d
  induction d with
  | zero =>
    intro fuel k hk hF
    obtain ⟨F, rfl⟩ : ∃ F, fuel = F + 1 := ⟨fuel - 1, by omega⟩
    rw [f_L_writes_3, qy_q (v := 7) (j := 7) rfl (by omega), h7, if_pos (nI_le (by omega) (by omega))]
  | succ d ih =>
    intro fuel k hk hF
    obtain ⟨F, rfl⟩ : ∃ F, fuel = F + 1 := ⟨fuel - 1, by omega⟩
    rw [f_L_writes_3, qy_q (v := 7) (j := 7) rfl (by omega), h7, if_neg (nI_ge (by omega) (by omega)), qy_q (v := 9) (j := 9) rfl (by omega), h9, if_pos (nI_pos' (by omega)), qz_nm, nI_1]
    exact ih F (k + 1) (by omega) (by omega)
theorem qw_skip (h7 : X 131 7 = nI p) (hp : p ≤ 46) (h9 : X 131 9 = -5) : ∀ d F k : Nat, k + d ≤ p → (∀ i : Nat, k ≤ i → i < k + d → ¬ X 136 i &&& 7 = 2) → f_L_writes_3 N (F + d) (nI k) X = f_L_writes_3 N F (nI (k + d)) X := by
  intro d
  induction d with
  | zero => intro F k _ _; rfl
  | succ d ih =>
    intro F k hk hno
    rw [show F + (d + 1) = F + d + 1 by omega, f_L_writes_3, qy_q (v := 7) (j := 7) rfl (by omega), h7, if_neg (nI_ge (by omega) (by omega)), qy_q (v := 9) (j := 9) rfl (by omega), h9, if_neg (by decide), qy_r rfl (show k < 48 by omega), qz_nm, if_neg (hno k (by omega) (by omega)), qz_nm, nI_1, ih F (k + 1) (by omega) (fun i h1 h2 => hno i (by omega) (by omega)), show k + 1 + d = k + (d + 1) by omega]
/-- what a write that begins makes of the law's rows -/
def qw_X (X : XT) (n j0 : Nat) : XT := m_up (m_up (m_up (m_up X 131 (upd (X 131) 9 (nI j0))) 136 (upd (X 136) j0 (X 136 j0 + 1))) 131 (upd (upd (X 131) 9 (nI j0)) 10 (X 131 4 + ql_mem X j0 n / 4000))) 132 (ql_tr X j0 3 n)
theorem qw_at {j0 : Nat} (h7 : X 131 7 = nI p) (h6 : X 131 6 = nI n) (hn : n ≤ 46) (hp : p ≤ 46) (h9 : X 131 9 = -5) (hj : j0 < p) (h2 : X 136 j0 &&& 7 = 2) (hN : 200 ≤ N) {F : Nat} (hF : p < F) : f_L_writes_3 N (F + 1) (nI j0) X = some (qw_X X n j0) := by
  have e6 : upd (X 131) 9 (nI j0) 6 = nI n := by rw [qz_uo (by decide)]; exact h6
  rw [f_L_writes_3, qy_q (v := 7) (j := 7) rfl (by omega), h7, if_neg (nI_ge (by omega) (by omega)), qy_q (v := 9) (j := 9) rfl (by omega), h9, if_neg (by decide), qy_r rfl (show j0 < 48 by omega), qz_nm, if_pos h2, qy_qw (v := 9) (j := 9) rfl (by omega), qy_r rfl (show j0 < 48 by omega), qz_nm, qy_rw rfl (show j0 < 48 by omega), qy_q (v := 4) (j := 4) rfl (by omega), qy_members (n := n) (by rw [qz_un _ _ (show (131 : Nat) ≠ 136 by decide), qz_up]; exact e6) (by omega) hN, qz_bi, qz_nm, qz_nm, qy_qw (v := 10) (j := 10) rfl (by omega), qy_turns (n := n) (by rw [qz_up, qz_uo (by decide), qz_un _ _ (show (131 : Nat) ≠ 136 by decide), qz_up]; exact e6) (by omega) hN, qz_bi, qz_nm, nI_1]
  rw [ql_mem_c (X := X) (by rw [qz_un _ _ (by decide), qz_un _ _ (by decide)]) (by rw [qz_un _ _ (by decide), qz_un _ _ (by decide)]), ql_tr_c (X := X) (by rw [qz_un _ _ (by decide), qz_un _ _ (by decide), qz_un _ _ (by decide)]) (by rw [qz_un _ _ (by decide), qz_un _ _ (by decide), qz_un _ _ (by decide)]), qz_un _ _ (show (131 : Nat) ≠ 136 by decide), qz_up, qz_un X _ (show (136 : Nat) ≠ 131 by decide), qz_uo (show (4 : Nat) ≠ 9 by decide)]
  refine qw_idle (p := p) (j := j0) ?_ hp ?_ (by omega) (p - (j0 + 1)) F (j0 + 1) (by omega) (by omega)
  · rw [qz_un _ _ (by decide), qz_up, qz_uo (by decide), qz_uo (by decide)]; exact h7
  · rw [qz_un _ _ (by decide), qz_up, qz_uo (by decide), qz_us]
/-- the model's row when a write begins -/
def qw_Y (y : Nat → Int32) (n j0 : Nat) : Nat → Int32 := qz_turn (upd (upd (upd y 9 (nI j0)) (1216 + 4 * j0 + 0) 3) (1216 + 4 * j0 + 3) (y 4 + qz_rec y n (nI j0) / 4)) n (nI j0) 3
theorem qw_Yo {j0 a : Nat} (h9 : a ≠ 9) (h : a < 16 ∨ (a < 1216 ∧ (a - 16) % 8 ≠ 3) ∨ (1216 ≤ a ∧ a ≠ 1216 + 4 * j0 + 0 ∧ a ≠ 1216 + 4 * j0 + 3)) (hn : n ≤ 46) : qw_Y y n j0 a = y a := by
  unfold qw_Y
  rw [qz_turn_o (by omega), qz_uo (by omega), qz_uo (by omega), qz_uo h9]
theorem qw_M {j0 : Nat} (h6 : y 6 = nI n) (hn : n ≤ 46) (h7 : y 7 = nI p) (hp : p ≤ 46) (h9 : y 9 = -5) (hj : j0 < p) (hq : qz_at (qz_P2 y) p 0 0 = nI j0) (hN : 200 ≤ N) : f_X8_goOn N (m_up Z 1 y) = some (m_up Z 1 (qw_Y y n j0)) := by
  have e6 : upd (upd y 9 (nI j0)) (1216 + 4 * j0 + 0) 3 6 = nI n := by rw [qz_uo (by omega), qz_uo (by omega)]; exact h6
  have e4 : upd (upd y 9 (nI j0)) (1216 + 4 * j0 + 0) 3 4 = y 4 := by rw [qz_uo (by omega), qz_uo (by omega)]
  have er : qz_rec (upd (upd y 9 (nI j0)) (1216 + 4 * j0 + 0) 3) n (nI j0) = qz_rec y n (nI j0) := qz_sum_c n (fun k hk => by
    have hk1 : k < 150 := by omega
    simp only [qz_mb]
    rw [qz_uo (show 16 + 8 * k + 6 ≠ 1216 + 4 * j0 + 0 by omega), qz_uo (show 16 + 8 * k + 7 ≠ 1216 + 4 * j0 + 0 by omega), qz_uo (show 16 + 8 * k + 1 ≠ 1216 + 4 * j0 + 0 by omega), qz_uo (show 16 + 8 * k + 6 ≠ 9 by omega), qz_uo (show 16 + 8 * k + 7 ≠ 9 by omega), qz_uo (show 16 + 8 * k + 1 ≠ 9 by omega)])
  unfold f_X8_goOn
  rw [qz_queuedAt0 h7 (by omega) hN, qz_bi, qz_rd (v := 9) (w := 9) rfl (by omega), if_pos h9, hq, if_neg (qz_n5 (by omega)), qz_wr (v := 9) (w := 9) rfl (by omega), qz_setG (v := 0) (w := 0) rfl (by omega) (by omega), qz_bv, qz_rd (v := 4) (w := 4) rfl (by omega), e4, qz_records e6 (by omega) hN, qz_bi, er, qz_nm, qz_nm, qz_setG (v := 3) (w := 3) rfl (by omega) (by omega), qz_bv, qz_turnMembers (by rw [qz_uo (by omega)]; exact e6) (by omega) hN, qz_bi]
  rfl
theorem qw_L {j0 : Nat} (hL : qL X y n p) (h9 : y 9 = -5) (hj : j0 < p) (h2 : y (1216 + 4 * j0 + 0) = 2) : qL (qw_X X n j0) (qw_Y y n j0) n p := by
  obtain ⟨hn, hp, hq, ht, hc, hg⟩ := hL
  have r131 : qw_X X n j0 131 = upd (upd (X 131) 9 (nI j0)) 10 (X 131 4 + ql_mem X j0 n / 4000) := by
    unfold qw_X
    rw [qz_un _ _ (by decide), qz_up]
  have r132 : qw_X X n j0 132 = ql_tr X j0 3 n := by
    unfold qw_X
    rw [qz_up]
  have r136 : qw_X X n j0 136 = upd (X 136) j0 (X 136 j0 + 1) := by
    unfold qw_X
    rw [qz_un _ _ (by decide), qz_un _ _ (by decide), qz_up]
  have ro : ∀ i : Nat, i ≠ 131 → i ≠ 132 → i ≠ 136 → qw_X X n j0 i = X i := fun i h1 h2 h3 => by
    unfold qw_X
    rw [qz_un _ _ h2, qz_un _ _ h1, qz_un _ _ h3, qz_un _ _ h1]
  have y9 : qw_Y y n j0 9 = nI j0 := by
    unfold qw_Y
    rw [qz_turn_o (by omega), qz_uo (by omega), qz_uo (by omega), qz_us]
  have yl : ∀ a : Nat, a < 16 → a ≠ 9 → qw_Y y n j0 a = y a := fun a h1 h2 => qw_Yo h2 (Or.inl h1) hn
  refine ⟨hn, hp, ?_, ?_, fun k hk => ?_, fun j hj2 => ?_⟩
  · obtain ⟨q0, q1, q2, q3, q4, q5, q6, y6, q7, y7, q8, q9, q11, q12, q13, q14, q15, q16, q17, q18⟩ := hq
    rw [r131]
    unfold qL_q
    simp only [upd, yl, y9, Nat.reduceEqDiff, if_false, if_true, Nat.reduceLT, ne_eq, not_false_eq_true]
    exact ⟨q0, q1, q2, q3, q4, q5, q6, y6, q7, y7, q8, trivial, q11, q12, q13, q14, q15, q16, q17, q18⟩
  · intro j h1 h2'
    rw [y9, nI_eq (by omega) (by omega)] at h2'
    subst h2'
    rw [r131, qz_us]
    unfold qw_Y
    rw [qz_turn_o (by omega), qz_us]
    obtain ⟨u, v, u1, v1, e1, e2, e3⟩ := qL_mem hc (g := j0) (by omega) n (Nat.le_refl _)
    rw [e2, e3, hq.2.2.2.2.1, show (4000 : Int32) = nI 4000 from rfl, show (4 : Int32) = nI 4 from rfl, pk_div (by omega) (by omega) (by omega), pk_div (by omega) (by omega) (by omega)]
    congr 2
    omega
  · rw [r132, ro 133 (by decide) (by decide) (by decide), ro 134 (by decide) (by decide) (by decide), ro 135 (by decide) (by decide) (by decide)]
    have hc2 : qL_c X (upd (upd (upd y 9 (nI j0)) (1216 + 4 * j0 + 0) 3) (1216 + 4 * j0 + 3) (y 4 + qz_rec y n (nI j0) / 4)) n := fun k hk => qc_c (fun w hw => by rw [qz_uo (by omega), qz_uo (by omega), qz_uo (by omega)]) (hc k hk)
    exact qL_tr (v := 3) (by omega) hc2 (by omega) hk
  · rw [r136, ro 137 (by decide) (by decide) (by decide)]
    by_cases e : j = j0
    · subst e
      rw [qz_us]
      obtain ⟨s, r, s1, s2, s3, e0, e2, ea, _⟩ := hg j hj2
      have es : s = 2 := by
        rw [h2] at e0
        exact ((nI_eq (a := 2) (by omega) (by omega)).mp e0).symm
      subst es
      refine ⟨3, r, by omega, by omega, s3, ?_, ?_, ?_, fun q => absurd q (by omega)⟩
      · unfold qw_Y
        rw [qz_turn_o (by omega), qz_uo (by omega), qz_us]
        rfl
      · rw [qw_Yo (by omega) (by omega) hn]; exact e2
      · rw [ea, nI_1]
        congr 1
        omega
    · rw [qz_uo e]
      exact qg_c (fun w hw => qw_Yo (by omega) (by omega) hn) (hg j hj2)
/-- the law's writes and the model's goOn -/
theorem qL_writes (hL : qL X y n p) (h9 : y 9 = -5 ∨ ∃ j : Nat, j < p ∧ y 9 = nI j) (hN : 200 ≤ N) : ∃ (X2 : XT) (y2 : Nat → Int32), f_X8_goOn N (m_up Z 1 y) = some (m_up Z 1 y2) ∧ f_L_writes N X = some X2 ∧ qlo X X2 ∧ qL X2 y2 n p ∧ (y2 9 = -5 ∨ ∃ j : Nat, j < p ∧ y2 9 = nI j) := by
  have hL0 := hL
  obtain ⟨hn, hp, hq, ht, hc, hg⟩ := hL
  obtain ⟨q0, q1, q2, q3, q4, q5, q6, y6, q7, y7, q8, q9, _⟩ := hq
  unfold f_L_writes
  rcases h9 with h9 | ⟨j, hj, h9⟩
  · have h9q : X 131 9 = -5 := q9.trans h9
    rcases qz_at_0 (P := qz_P2 y) p 0 with ⟨u1, u2⟩ | ⟨j0, u1, u2, u3, u4, u5⟩
    · have hM : f_X8_goOn N (m_up Z 1 y) = some (m_up Z 1 y) := by
        unfold f_X8_goOn
        rw [qz_queuedAt0 y7 (by omega) hN, qz_bi, qz_rd (v := 9) (w := 9) rfl (by omega), if_pos h9, u1, if_pos rfl]
      have hl := qw_skip (N := N) q7 hp h9q p (N - p) 0 (by omega) (fun i h1 h2 => by rw [qg_7 (hg i (by omega))]; exact u2 i h1 (by omega))
      refine ⟨X, y, hM, ?_, qlo_rf, hL0, Or.inl h9⟩
      rw [show (0 : Int32) = nI 0 from rfl]
      have e : N - p + p = N := by omega
      rw [e] at hl
      rw [hl, Nat.zero_add]
      obtain ⟨F, hF⟩ : ∃ F, N - p = F + 1 := ⟨N - p - 1, by omega⟩
      rw [hF, f_L_writes_3, qy_q (v := 7) (j := 7) rfl (by omega), q7, if_pos (nI_le (Nat.le_refl _) (by omega))]
    · have hst : y (1216 + 4 * j0 + 0) = 2 := u3
      have hl := qw_skip (N := N) q7 hp h9q j0 (N - j0) 0 (by omega) (fun i h1 h2 => by rw [qg_7 (hg i (by omega))]; exact u5 i h1 (by omega))
      refine ⟨qw_X X n j0, qw_Y y n j0, qw_M y6 hn y7 hp h9 (by omega) u4 hN, ?_, ?_, qw_L hL0 h9 (by omega) hst, Or.inr ⟨j0, by omega, ?_⟩⟩
      · rw [show (0 : Int32) = nI 0 from rfl]
        have e : N - j0 + j0 = N := by omega
        rw [e] at hl
        rw [hl, Nat.zero_add]
        obtain ⟨F, hF⟩ : ∃ F, N - j0 = F + 1 := ⟨N - j0 - 1, by omega⟩
        rw [hF]
        exact qw_at q7 q6 hn hp h9q (by omega) (by rw [qg_7 (hg j0 (by omega))]; exact hst) hN (by omega)
      · exact qlo_tr (qlo_tr (qlo_tr (qlo_up (by omega)) (qlo_up (by omega))) (qlo_up (by omega))) (qlo_up (by omega))
      · unfold qw_Y
        rw [qz_turn_o (by omega), qz_uo (by omega), qz_uo (by omega), qz_us]
  · have hM : f_X8_goOn N (m_up Z 1 y) = some (m_up Z 1 y) := by
      unfold f_X8_goOn
      rw [qz_queuedAt0 y7 (by omega) hN, qz_bi, qz_rd (v := 9) (w := 9) rfl (by omega), if_neg (fun q => qz_n5 (k := j) (by omega) (h9.symm.trans q))]
    refine ⟨X, y, hM, ?_, qlo_rf, hL0, Or.inr ⟨j, hj, h9⟩⟩
    exact qw_idle q7 hp (q9.trans h9) (by omega) p N 0 (by omega) (by omega)
end QL2
