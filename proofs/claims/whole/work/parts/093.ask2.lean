-- member, open, queued, count, total, append, clearText
section QQ2
variable {X Y : XT} {N T n p f e t b : Nat} {y : Nat → Int32}
theorem qz_st_member (hN : 6000 ≤ N) : m_st_member N qz_Inv := by
  intro i X Y _ hI v1 v2
  obtain ⟨n, p, f, e, t, h, _⟩ := hI.1
  have hn0 := qzR_nn h
  have hp0 := (qzR_pn h).1
  have eY : m_up Y 1 (Y 1) = Y := qz_ue Y 1
  have hM : f_X8_member N v1 v2 Y = m_bi (f_X8_within N v1 0 (nI p - 1) Y) fun r_6 X_6 => if r_6 = 0 then (some ((-1), X_6)) else (if 0 ≤ v2 then (m_bi (f_X8_memberAt N v1 v2 X_6) fun r_14 X_14 => some (r_14, X_14)) else (some ((-2), X_6))) := by
    have q : f_X8_member N v1 v2 (m_up Y 1 (Y 1)) = m_bi (f_X8_within N v1 0 (nI p - 1) (m_up Y 1 (Y 1))) fun r_6 X_6 => if r_6 = 0 then (some ((-1), X_6)) else (if 0 ≤ v2 then (m_bi (f_X8_memberAt N v1 v2 X_6) fun r_14 X_14 => some (r_14, X_14)) else (some ((-2), X_6))) := by
      unfold f_X8_member
      rw [qz_rd (v := 7) (w := 7) rfl (by omega), qzR_py h, qz_nm]
    rwa [eY] at q
  rw [hM]
  unfold f_X7_member f_X3_memberAt
  rw [qz_bis]
  rcases qz_idx (N := N) v1 hp0 with ⟨j, hj, rfl⟩ | ⟨q1, q2⟩
  · rw [qz_hasG (qzR_px h) hj hp0, qz_bi, if_neg qz_10, qz_idxIn hp0 hj, qz_bi, if_neg qz_10]
    by_cases h0 : 0 ≤ v2
    · obtain ⟨r, r1, rfl⟩ := nI_of (Int32.not_lt.mpr h0)
      have q2 := qz_memberAt (N := N) (Z := Y) (g := nI j) (r := r) (qzR_ny h) hn0 (by omega) r1
      rw [eY] at q2
      rw [if_pos h0, if_pos h0, qz_bis, qz_bis, qz_memEq h (by omega) r1, q2]
      exact ⟨_, X, Y, rfl, rfl, qz_Inv_s hI⟩
    · rw [if_neg h0, if_neg h0]
      exact ⟨_, X, Y, rfl, rfl, qz_Inv_s hI⟩
  · rw [qz_hasGNo (qzR_px h) q1, q2, qz_bi, qz_bi, if_pos rfl, if_pos rfl]
    exact ⟨_, X, Y, rfl, rfl, qz_Inv_s hI⟩
theorem qz_st_open (hN : 6000 ≤ N) : m_st_open N qz_Inv := by
  intro i X Y _ hI v1
  obtain ⟨n, p, f, e, t, h, _⟩ := hI.1
  unfold f_X7_open f_X8_open
  rcases qz_client (N := N) (X := X) v1 with ⟨c0, hc, rfl⟩ | ⟨q1, q2⟩
  · have q := qz_openM (Z := Y) h (show 200 ≤ N by omega) hc
    rw [qz_ue] at q
    rw [qz_isClientC hc, qz_clientM hc, qz_bi, qz_bi, if_neg qz_10, if_neg qz_10, qz_openC hc, q, qz_bi, qz_bi]
    exact ⟨_, X, Y, rfl, rfl, qz_Inv_s hI⟩
  · rw [q1, q2, qz_bi, qz_bi, if_pos rfl, if_pos rfl]
    exact ⟨_, X, Y, rfl, rfl, qz_Inv_s hI⟩
theorem qz_st_queued (hN : 6000 ≤ N) : m_st_queued N qz_Inv := by
  intro i X Y _ hI v1
  obtain ⟨n, p, f, e, t, h, _⟩ := hI.1
  have hp0 := (qzR_pn h).1
  have hqb := qzR_qb h
  unfold f_X7_queued f_X8_queued f_X3_queuedAt
  by_cases h0 : 0 ≤ v1
  · obtain ⟨r, r1, rfl⟩ := nI_of (Int32.not_lt.mpr h0)
    have q2 := qz_queuedAt (N := N) (Z := Y) (r := r) (qzR_py h) hp0 (by omega) r1
    have q3 := qz_queue h r
    rw [qz_ue] at q2
    rw [if_pos h0, if_pos h0, qz_bis, qz_bis, qz_bis, q2]
    have q4 : qz_at (fun i => Y 1 (1216 + 4 * i + 0) = 2) p 0 r = if f + r < e then X 16 (f + r) else -5 := q3
    rw [q4]
    unfold f_X4_at
    rw [if_neg (nI_pos r1), qz_sizeQ h, qz_bi]
    by_cases hr : f + r < e
    · rw [if_neg (nI_ge (by omega) (by omega)), if_pos hr, qzR_qf h, nI_add, qz_nm, qz_gd (qz_in (by omega) (by omega)), nI_clamp (by omega), qz_nm]
      exact ⟨_, X, Y, rfl, rfl, qz_Inv_s hI⟩
    · rw [if_pos (nI_le (by omega) r1), if_neg hr]
      exact ⟨_, X, Y, rfl, rfl, qz_Inv_s hI⟩
  · rw [if_neg h0, if_neg h0]
    exact ⟨_, X, Y, rfl, rfl, qz_Inv_s hI⟩
theorem qz_rdY {α : Type} {Y : XT} {v : Int32} {w : Nat} (hv : v = nI w) (hw : w < 1816) (k : Int32 → Option α) : (m_gd (m_in v 1816) (m_nm (Y 1 v.toNatClampNeg) k)) = k (Y 1 w) := by
  subst hv
  rw [qz_gd (qz_in hw (by omega)), nI_clamp (by omega)]
  rfl
theorem qz_busyEq (h : qz_R X y n p f e t b) : qz_sum (fun i => if X 20 i = -5 then 0 else 1) 12 = qz_sum (fun i => if 4 ≤ y (16 + 8 * i + 3) then 0 else 1) n := by
  have q := qz_opens h (fun _ => 1)
  rw [q]
  refine qz_sum_c n (fun k _ => ?_)
  by_cases q1 : 4 ≤ y (16 + 8 * k + 3)
  · rw [if_neg (fun u => u q1), if_pos q1]
  · rw [if_pos q1, if_neg q1]
theorem qz_st_count (hN : 6000 ≤ N) : m_st_count N qz_Inv := by
  intro i X Y _ hI v1
  obtain ⟨n, p, f, e, t, h, _⟩ := hI.1
  obtain ⟨o, hh, _, _, _, a4, a5, _⟩ := hI.2.2.1
  obtain ⟨l, _, b2, b3, _⟩ := hI.2.2.2
  have hn0 := qzR_nn h
  have hp0 := (qzR_pn h).1
  unfold f_X7_count f_X8_count f_X3_aboutNow f_X2_size f_X5_length
  by_cases h10 : v1 = 10
  · subst h10
    rw [if_pos rfl, qz_bi, if_neg (by decide), if_neg (by decide), if_neg (by decide), if_neg (by decide), if_neg (by decide), if_neg (by decide), if_neg (by decide), if_neg (by decide), if_neg (by decide), if_neg (by decide), if_pos rfl, a4, a5]
    exact ⟨_, X, Y, rfl, rfl, qz_Inv_s hI⟩
  by_cases h11 : v1 = 11
  · subst h11
    rw [if_neg (by decide), if_pos rfl, qz_bi, if_neg (by decide), if_neg (by decide), if_neg (by decide), if_neg (by decide), if_neg (by decide), if_neg (by decide), if_neg (by decide), if_neg (by decide), if_neg (by decide), if_neg (by decide), if_neg (by decide), if_pos rfl, b2, b3]
    exact ⟨_, X, Y, rfl, rfl, qz_Inv_s hI⟩
  rw [if_neg h10, if_neg h11, qz_bis]
  by_cases h0 : v1 = 0
  · rw [if_pos h0, if_pos h0, qz_rdY (v := 0) (w := 0) rfl (by omega), qzR_tx h, qzR_ty h]
    exact ⟨_, X, Y, rfl, rfl, qz_Inv_s hI⟩
  rw [if_neg h0, if_neg h0]
  by_cases h1 : v1 = 1
  · rw [if_pos h1, if_pos h1, qz_rdY (v := 1) (w := 1) rfl (by omega), qzR_wx h]
    exact ⟨_, X, Y, rfl, rfl, qz_Inv_s hI⟩
  rw [if_neg h1, if_neg h1]
  by_cases h2 : v1 = 2
  · rw [if_pos h2, if_pos h2, qz_rdY (v := 8) (w := 8) rfl (by omega), qzR_gx h]
    exact ⟨_, X, Y, rfl, rfl, qz_Inv_s hI⟩
  rw [if_neg h2, if_neg h2]
  by_cases h3 : v1 = 3
  · rw [if_pos h3, if_pos h3, qz_rdY (v := 9) (w := 9) rfl (by omega), qzR_vx h]
    exact ⟨_, X, Y, rfl, rfl, qz_Inv_s hI⟩
  rw [if_neg h3, if_neg h3]
  by_cases h4 : v1 = 4
  · have q := qz_queuedMany (N := N) (Z := Y) (qzR_py h) hp0 (by omega)
    rw [qz_ue] at q
    rw [if_pos h4, if_pos h4, qz_bis, qz_bis, qz_sizeQ h, q, qz_queueSum h]
    exact ⟨_, X, Y, rfl, rfl, qz_Inv_s hI⟩
  rw [if_neg h4, if_neg h4]
  by_cases h5 : v1 = 5
  · have q := qz_busyMany (N := N) (Z := Y) (qzR_ny h) hn0 (by omega)
    rw [qz_ue] at q
    rw [if_pos h5, if_pos h5, qz_bis, qz_bis, qz_busyC (by omega), q, qz_busyEq h]
    exact ⟨_, X, Y, rfl, rfl, qz_Inv_s hI⟩
  rw [if_neg h5, if_neg h5]
  by_cases h6 : v1 = 6
  · subst h6
    rw [if_pos rfl, if_pos rfl, qz_nm, qz_bis, qz_nm, qz_nm, qz_valueOf (v := 6 - 6) (i := 0) (by decide) (by omega), qz_rdY (v := 2 + 6 - 6) (w := 2) (by decide) (by omega), qzR_sx h 0 (by omega)]
    exact ⟨_, X, Y, rfl, rfl, qz_Inv_s hI⟩
  rw [if_neg h6, if_neg h6]
  by_cases h7 : v1 = 7
  · subst h7
    rw [if_pos rfl, if_pos rfl, qz_nm, qz_bis, qz_nm, qz_nm, qz_valueOf (v := 7 - 6) (i := 1) (by decide) (by omega), qz_rdY (v := 2 + 7 - 6) (w := 3) (by decide) (by omega), qzR_sx h 1 (by omega)]
    exact ⟨_, X, Y, rfl, rfl, qz_Inv_s hI⟩
  rw [if_neg h7, if_neg h7]
  by_cases h8 : v1 = 8
  · subst h8
    rw [if_pos rfl, if_pos rfl, qz_nm, qz_bis, qz_nm, qz_nm, qz_valueOf (v := 8 - 6) (i := 2) (by decide) (by omega), qz_rdY (v := 2 + 8 - 6) (w := 4) (by decide) (by omega), qzR_sx h 2 (by omega)]
    exact ⟨_, X, Y, rfl, rfl, qz_Inv_s hI⟩
  rw [if_neg h8, if_neg h8]
  by_cases h9 : v1 = 9
  · subst h9
    rw [if_pos rfl, if_pos rfl, qz_nm, qz_bis, qz_nm, qz_nm, qz_valueOf (v := 9 - 6) (i := 3) (by decide) (by omega), qz_rdY (v := 2 + 9 - 6) (w := 5) (by decide) (by omega), qzR_sx h 3 (by omega)]
    exact ⟨_, X, Y, rfl, rfl, qz_Inv_s hI⟩
  rw [if_neg h9, if_neg h9, if_neg h10, if_neg h11]
  exact ⟨_, X, Y, rfl, rfl, qz_Inv_s hI⟩
theorem qz_st_total : m_st_total N qz_Inv := by
  intro i X Y _ hI v1
  obtain ⟨n, p, f, e, t, h, _⟩ := hI.1
  have t0 := qzR_t0 h; have t1 := qzR_t1 h; have t2 := qzR_t2 h; have t3 := qzR_t3 h; have t4 := qzR_t4 h; have t5 := qzR_t5 h; have t6 := qzR_t6 h; have t7 := qzR_t7 h
  unfold f_X7_total f_X8_total f_X3_totalOf
  rw [qz_bis]
  have hnone : (v1 < 0 ∨ 8 ≤ v1) → (∀ w : Nat, w < 8 → v1 ≠ nI w) := by
    intro q w hw e1
    rw [e1] at q
    rcases q with q | q
    · exact nI_pos (by omega) q
    · exact nI_ge (a := w) (b := 8) hw (by omega) q
  by_cases h1 : v1 < 0
  · have hn := hnone (Or.inl h1)
    rw [if_pos h1, if_neg (show ¬ v1 = 0 from hn 0 (by omega)), if_neg (show ¬ v1 = 1 from hn 1 (by omega)), if_neg (show ¬ v1 = 2 from hn 2 (by omega)), if_neg (show ¬ v1 = 3 from hn 3 (by omega)), if_neg (show ¬ v1 = 4 from hn 4 (by omega)), if_neg (show ¬ v1 = 5 from hn 5 (by omega)), if_neg (show ¬ v1 = 6 from hn 6 (by omega)), if_neg (show ¬ v1 = 7 from hn 7 (by omega))]
    exact ⟨_, X, Y, rfl, rfl, qz_Inv_s hI⟩
  by_cases h2 : 8 ≤ v1
  · have hn := hnone (Or.inr h2)
    rw [if_neg h1, if_pos h2, if_neg (show ¬ v1 = 0 from hn 0 (by omega)), if_neg (show ¬ v1 = 1 from hn 1 (by omega)), if_neg (show ¬ v1 = 2 from hn 2 (by omega)), if_neg (show ¬ v1 = 3 from hn 3 (by omega)), if_neg (show ¬ v1 = 4 from hn 4 (by omega)), if_neg (show ¬ v1 = 5 from hn 5 (by omega)), if_neg (show ¬ v1 = 6 from hn 6 (by omega)), if_neg (show ¬ v1 = 7 from hn 7 (by omega))]
    exact ⟨_, X, Y, rfl, rfl, qz_Inv_s hI⟩
  obtain ⟨w, w1, rfl⟩ := nI_of h1
  have hw : w < 8 := by
    apply Nat.lt_of_not_le
    intro q
    exact h2 (nI_le (a := 8) q w1)
  rw [if_neg h1, if_neg h2, qz_gd (qz_in hw (by omega)), nI_clamp (by omega), qz_nm]
  have hc : w = 0 ∨ w = 1 ∨ w = 2 ∨ w = 3 ∨ w = 4 ∨ w = 5 ∨ w = 6 ∨ w = 7 := by omega
  rcases hc with rfl | rfl | rfl | rfl | rfl | rfl | rfl | rfl
  · rw [if_pos nI_0, qz_rdY (v := 6) (w := 6) rfl (by omega), t0]
    exact ⟨_, X, Y, rfl, rfl, qz_Inv_s hI⟩
  · rw [if_neg (by decide), if_pos (show nI 1 = 1 from rfl), qz_nm, qz_nm, qz_rdY (v := 10 + nI 1 - 1) (w := 10) (by decide) (by omega), t1]
    exact ⟨_, X, Y, rfl, rfl, qz_Inv_s hI⟩
  · rw [if_neg (by decide), if_neg (by decide), if_pos (show nI 2 = 2 from rfl), qz_nm, qz_nm, qz_rdY (v := 10 + nI 2 - 1) (w := 11) (by decide) (by omega), t2]
    exact ⟨_, X, Y, rfl, rfl, qz_Inv_s hI⟩
  · rw [if_neg (by decide), if_neg (by decide), if_neg (by decide), if_pos (show nI 3 = 3 from rfl), qz_nm, qz_nm, qz_rdY (v := 10 + nI 3 - 1) (w := 12) (by decide) (by omega), t3]
    exact ⟨_, X, Y, rfl, rfl, qz_Inv_s hI⟩
  · rw [if_neg (by decide), if_neg (by decide), if_neg (by decide), if_neg (by decide), if_pos (show nI 4 = 4 from rfl), qz_rdY (v := 7) (w := 7) rfl (by omega), t4]
    exact ⟨_, X, Y, rfl, rfl, qz_Inv_s hI⟩
  · rw [if_neg (by decide), if_neg (by decide), if_neg (by decide), if_neg (by decide), if_neg (by decide), if_pos (show nI 5 = 5 from rfl), qz_nm, qz_nm, qz_rdY (v := 13 + nI 5 - 5) (w := 13) (by decide) (by omega), t5]
    exact ⟨_, X, Y, rfl, rfl, qz_Inv_s hI⟩
  · rw [if_neg (by decide), if_neg (by decide), if_neg (by decide), if_neg (by decide), if_neg (by decide), if_neg (by decide), if_pos (show nI 6 = 6 from rfl), qz_nm, qz_nm, qz_rdY (v := 13 + nI 6 - 5) (w := 14) (by decide) (by omega), t6]
    exact ⟨_, X, Y, rfl, rfl, qz_Inv_s hI⟩
  · rw [if_neg (by decide), if_neg (by decide), if_neg (by decide), if_neg (by decide), if_neg (by decide), if_neg (by decide), if_neg (by decide), if_pos (show nI 7 = 7 from rfl), qz_nm, qz_nm, qz_rdY (v := 13 + nI 7 - 5) (w := 15) (by decide) (by omega), t7]
    exact ⟨_, X, Y, rfl, rfl, qz_Inv_s hI⟩
end QQ2
