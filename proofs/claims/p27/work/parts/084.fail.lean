-- fail and withdraw
section QFW
variable {X Z : XT} {y : Nat → Int32} {N n p f e t b c0 k0 j0 T : Nat} {w0 : Int32}
/-- a total is one more, on both sides -/
theorem qz_bump {i a : Nat} {v : Int32} (h : qz_R X y n p f e t b) (hi : (i = 2 ∧ a = 11) ∨ (i = 3 ∧ a = 12)) : qz_R (m_up X 19 (upd (X 19) i (X 19 i + v))) (upd y a (y a + v)) n p f e t b := by
  have t0 := qzR_t0 h; have t1 := qzR_t1 h; have t2 := qzR_t2 h; have t3 := qzR_t3 h; have t4 := qzR_t4 h; have t5 := qzR_t5 h; have t6 := qzR_t6 h; have t7 := qzR_t7 h
  refine qzo_bump (x := X) (y := y) h ?_ ?_ ?_ ?_ ?_
  · intro j _ j19
    rw [qz_un _ _ j19]
  · intro a1 q1 q2 q3 q4 q5 q6 q7
    exact qz_uo (by omega)
  · intro k w k1 k2
    exact qz_uo (by omega)
  · intro j w k1 k2
    exact qz_uo (by omega)
  · rw [qz_up]
    rcases hi with ⟨rfl, rfl⟩ | ⟨rfl, rfl⟩ <;> simp [upd, t0, t1, t2, t3, t4, t5, t6, t7]
theorem qz_loseTail (hX : X 1 8 = nI n) (hn : n ≤ 150) (hk : k0 < n) (hcl : X 2 k0 = nI c0) (hc : c0 < 12) {X2 : XT} (he : f_X3_endCommit N (nI k0) 5 X = some X2) : f_X3_loseClient_32 N (nI k0) X = some (nI k0, m_up X2 19 (upd (X2 19) 2 (X2 19 2 + 1))) := by
  unfold f_X3_loseClient_32
  rw [he, qz_bv, qz_rdc (show (2 : Int32) = nI 2 from rfl) (show 2 < 8 by omega), qz_nm, qz_gd (qz_in' (show (2 : Int32) = nI 2 from rfl) (show 2 < 8 by omega) (by omega)), qz_nm, qz_cl' (show (2 : Int32) = nI 2 from rfl) (by omega)]
set_option maxHeartbeats 4000000 in
theorem qz_fail (hS : qz_S T X y) (hc : c0 < 12) (hN : 200 ≤ N) : ∃ (r : Int32) (X2 : XT) (y2 : Nat → Int32), f_X3_loseClient N (nI c0) X = some (r, X2) ∧ f_X8_doesFail N (nI c0) (m_up Z 1 y) = some (r, m_up Z 1 y2) ∧ qz_S T X2 y2 ∧ qz_fr X X2 ∧ ¬ r < -5 := by
  obtain ⟨n, p, f, e, t, h, hfe, hT⟩ := hS
  have hp0 := (qzR_pn h).1
  have hn0 := qzR_nn h
  unfold f_X3_loseClient f_X8_doesFail
  rw [qz_openC hc, qz_openM h hN hc, qz_bi, qz_bi]
  rcases qzR_oc h c0 hc with ⟨q1, _⟩ | ⟨k0, hk, q2, hcl, hop⟩
  · rw [if_pos q1, if_pos q1]
    exact ⟨-5, X, y, rfl, rfl, ⟨n, p, f, e, t, h, hfe, hT⟩, qz_fr_rf, by decide⟩
  · have h5 : ¬ nI k0 = (-5 : Int32) := qz_n5 (by omega)
    have hr : ¬ nI k0 < (-5 : Int32) := by
      rw [Int32.lt_iff_toInt_lt, nI_toInt (by omega)]
      have : (-5 : Int32).toInt = -5 := by decide
      omega
    rw [q2, if_neg h5, if_neg h5, qz_stateOf (qzR_nx h) hk hn0, qz_bi, qz_of (v := 3) (w := 3) rfl (by omega) (by omega), qz_bi, qzR_c5 h k0 hk]
    by_cases hw1 : y (16 + 8 * k0 + 3) = 1
    · obtain ⟨X1, X2, y2, u1, u2, u3, u4, u5, u6⟩ := qz_takeOut (Z := Z) (w0 := 5) h hN hk hc hcl hw1 (Or.inl rfl)
      rw [if_pos hw1, if_pos hw1, u1, u3, qz_bv, qz_bv]
      have hT32 : f_X3_loseClient_32 N (nI k0) X1 = some (nI k0, m_up X2 19 (upd (X2 19) 2 (X2 19 2 + 1))) := by
        unfold f_X3_loseClient_32
        rw [u2, qz_bv, qz_rdc (show (2 : Int32) = nI 2 from rfl) (show 2 < 8 by omega), qz_nm, qz_gd (qz_in' (show (2 : Int32) = nI 2 from rfl) (show 2 < 8 by omega) (by omega)), qz_nm, qz_cl' (show (2 : Int32) = nI 2 from rfl) (by omega)]
      have hM41 : f_X8_doesFail_41 N (nI k0) (m_up Z 1 y2) = some (nI k0, m_up Z 1 (upd y2 11 (y2 11 + 1))) := by
        unfold f_X8_doesFail_41
        rw [qz_rd (v := 11) (w := 11) rfl (by omega), qz_nm, qz_wr (v := 11) (w := 11) rfl (by omega)]
      rw [hT32, hM41]
      exact ⟨_, _, _, rfl, rfl, ⟨n, p, f, e, t, qz_bump u4 (Or.inl ⟨rfl, rfl⟩), fun q => hfe (by rw [qz_uo (by decide), u6] at q; exact q), hT⟩, qz_fr_tr u5 (qz_fr_up (by omega)), hr⟩
    · have hend := qz_endCommit (N := N) (w0 := 5) (qzR_nx h) hn0 hk ((qzR_c2 h k0 hk).trans hcl) hc
      rw [if_neg hw1, if_neg hw1, qz_loseTail (qzR_nx h) hn0 hk ((qzR_c2 h k0 hk).trans hcl) hc hend, qz_setOf (v := 3) (w := 3) rfl (by omega) (by omega), qz_bv]
      have hM41 : f_X8_doesFail_41 N (nI k0) (m_up Z 1 (upd y (16 + 8 * k0 + 3) 5)) = some (nI k0, m_up Z 1 (upd (upd y (16 + 8 * k0 + 3) 5) 11 (upd y (16 + 8 * k0 + 3) 5 11 + 1))) := by
        unfold f_X8_doesFail_41
        rw [qz_rd (v := 11) (w := 11) rfl (by omega), qz_nm, qz_wr (v := 11) (w := 11) rfl (by omega)]
      rw [hM41]
      have hR : qz_R (m_up (m_up X 5 (upd (X 5) k0 5)) 20 (upd (X 20) c0 (-5))) (upd y (16 + 8 * k0 + 3) 5) n p f e t 0 := by
        refine qzo_lose (x := X) (y := y) (k0 := k0) (c0 := c0) h ?_ ?_ ?_ ?_ hk hc hcl hop hw1 ?_ ?_ ?_
        · intro i _ i5 i20
          rw [qz_un _ _ i20, qz_un _ _ i5]
        · intro a a1
          exact qz_uo (by omega)
        · intro k w k1 k2 k3
          exact qz_uo (by omega)
        · intro j w k1 k2
          exact qz_uo (by omega)
        · intro k
          rw [qz_un _ _ (by decide), qz_up]
          rfl
        · intro c
          rw [qz_up]
          rfl
        · intro k k1
          by_cases q : k = k0
          · rw [if_pos q, q, qz_us]
          · rw [if_neg q, qz_uo (by omega)]
      exact ⟨_, _, _, rfl, rfl, ⟨n, p, f, e, t, qz_bump hR (Or.inl ⟨rfl, rfl⟩), fun q => hfe (by rw [qz_uo (by decide), qz_uo (by omega)] at q; exact q), hT⟩, qz_fr_tr (qz_fr_tr (qz_fr_up (by omega)) (qz_fr_up (by omega))) (qz_fr_up (by omega)), hr⟩
/-- both ask alike whether a client can withdraw -/
theorem qz_canW (h : qz_R X y n p f e t b) (hc : c0 < 12) (hN : 200 ≤ N) : (f_X3_refusalToTakeBack N (nI c0) X = some (0, X) ∧ f_X8_canWithdraw N (nI c0) (m_up Z 1 y) = some (1, m_up Z 1 y) ∧ ∃ k0 : Nat, k0 < n ∧ X 20 c0 = nI k0 ∧ y (16 + 8 * k0 + 0) = nI c0 ∧ y (16 + 8 * k0 + 3) = 1) ∨ (f_X3_refusalToTakeBack N (nI c0) X = some (-4, X) ∧ f_X8_canWithdraw N (nI c0) (m_up Z 1 y) = some (0, m_up Z 1 y)) := by
  have hn0 := qzR_nn h
  unfold f_X3_refusalToTakeBack f_X8_canWithdraw
  rw [qz_isClientC hc, qz_bi, if_neg (by decide), qz_openC hc, qz_openM h hN hc, qz_bi, qz_bi]
  rcases qzR_oc h c0 hc with ⟨q1, _⟩ | ⟨k0, hk, q2, hcl, hop⟩
  · rw [q1, qz_stateOf5, qz_bi, if_neg (by decide), if_pos rfl]
    exact Or.inr ⟨rfl, rfl⟩
  · rw [q2, if_neg (qz_n5 (by omega)), qz_stateOf (qzR_nx h) hk hn0, qz_bi, qz_of (v := 3) (w := 3) rfl (by omega) (by omega), qz_bi, qzR_c5 h k0 hk]
    by_cases hw : y (16 + 8 * k0 + 3) = 1
    · rw [if_pos hw, if_pos hw]
      exact Or.inl ⟨rfl, rfl, k0, hk, rfl, hcl, hw⟩
    · rw [if_neg hw, if_neg hw]
      exact Or.inr ⟨rfl, rfl⟩
theorem qz_withdraw (hS : qz_S T X y) (hc : c0 < 12) (hN : 200 ≤ N) (hk : ∀ n p f e t : Nat, qz_R X y n p f e t 0 → ∃ k0 : Nat, k0 < n ∧ X 20 c0 = nI k0 ∧ y (16 + 8 * k0 + 0) = nI c0 ∧ y (16 + 8 * k0 + 3) = 1) : ∃ (r : Int32) (X2 : XT) (y2 : Nat → Int32), f_X3_takeBack N (nI c0) X = some (r, X2) ∧ f_X8_doesWithdraw N (nI c0) (m_up Z 1 y) = some (r, m_up Z 1 y2) ∧ qz_S T X2 y2 ∧ qz_fr X X2 ∧ ¬ r < 0 := by
  obtain ⟨n, p, f, e, t, h, hfe, hT⟩ := hS
  have hp0 := (qzR_pn h).1
  have hn0 := qzR_nn h
  obtain ⟨k0, hk, q2, hcl, hw1⟩ := hk n p f e t h
  obtain ⟨X1, X2, y2, u1, u2, u3, u4, u5, u6⟩ := qz_takeOut (Z := Z) (w0 := 6) h hN hk hc hcl hw1 (Or.inr rfl)
  have hB := qz_bump (v := 1) u4 (Or.inr ⟨rfl, rfl⟩)
  obtain ⟨j0, hj0, hg⟩ := qzR_kg hB k0 hk
  obtain ⟨m, m1, m2, _⟩ := qz_mem_nat (upd y2 12 (y2 12 + 1)) (nI j0) n
  refine ⟨nI m, _, _, ?_, ?_, ⟨n, p, f, e, t, hB, fun q => hfe (by rw [qz_uo (by decide), u6] at q; exact q), hT⟩, qz_fr_tr u5 (qz_fr_up (by omega)), nI_pos (by omega)⟩
  · unfold f_X3_takeBack
    rw [qz_openC hc, qz_bi, q2, u1, qz_bv, u2, qz_bv, qz_rdc (show (3 : Int32) = nI 3 from rfl) (show 3 < 8 by omega), qz_nm, qz_gd (qz_in' (show (3 : Int32) = nI 3 from rfl) (show 3 < 8 by omega) (by omega)), qz_nm, qz_cl' (show (3 : Int32) = nI 3 from rfl) (by omega), qz_groupOf (qzR_nx hB) hk hn0, qz_bi, qzR_c8 hB k0 hk, hg, qz_membersG (qzR_px hB) hj0 hp0, qz_bi, qzR_g12 hB j0 hj0, m2]
  · unfold f_X8_doesWithdraw
    rw [qz_openM h hN hc, qz_bi, q2, u3, qz_bv, qz_rd (v := 12) (w := 12) rfl (by omega), qz_nm, qz_wr (v := 12) (w := 12) rfl (by omega), qz_of (v := 6) (w := 6) rfl (by omega) (by omega), qz_bi, hg, qz_members (qzR_ny hB) hn0 hN, qz_bi, m2]
end QFW
