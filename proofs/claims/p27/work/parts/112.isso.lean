-- isSo: what the class tells is what the law's numbers say
section QI1
variable {N T n p f e t j r c k : Nat} {X Y : XT} {y : Nat → Int32}
theorem qi_count (h : qz_R X (Y 1) n p f e t 0) (hL : qL X (Y 1) n p) (hN : 200 ≤ N) (hk : k < 4) : f_X7_count N ((6 : Int32) + nI k) X = some (X 131 (2 + k), X) := by
  obtain ⟨hn, hp, hq, ht, hc, hg⟩ := hL
  obtain ⟨q0, q1, q2, q3, q4, q5, _⟩ := hq
  have e6 : (6 : Int32) + nI k = nI (6 + k) := by rw [show (6 : Int32) = nI 6 from rfl, nI_add]
  rw [e6, qd_count h hN (show 6 + k < 10 by omega)]
  have hcs : k = 0 ∨ k = 1 ∨ k = 2 ∨ k = 3 := by omega
  rcases hcs with rfl | rfl | rfl | rfl
  · rw [show 2 + 0 = 2 from rfl, q2]; rfl
  · rw [show 2 + 1 = 3 from rfl, q3]; rfl
  · rw [show 2 + 2 = 4 from rfl, q4]; rfl
  · rw [show 2 + 3 = 5 from rfl, q5]; rfl
theorem qi_73 (hL : qL X (Y 1) n p) {v1 v9 v11 v12 v13 : Int32} : ∀ (d F k : Nat), k + d = n → d < F → f_L_isSo_73 N F v1 v9 (qz_sum (fun i => if 4 ≤ Y 1 (16 + 8 * i + 3) then 0 else 1) k) v11 v12 v13 (nI k) X = f_L_isSo_108 N v1 v9 (qz_sum (fun i => if 4 ≤ Y 1 (16 + 8 * i + 3) then 0 else 1) n) v11 v12 v13 X := by
  obtain ⟨hn, hp, hq, ht, hc, hg⟩ := hL
  obtain ⟨q0, q1, q2, q3, q4, q5, q6, _⟩ := hq
  intro d
  induction d with
  | zero =>
    intro F k hk hF
    obtain ⟨F, rfl⟩ : ∃ G, F = G + 1 := ⟨F - 1, by omega⟩
    have e : k = n := by omega
    subst e
    rw [f_L_isSo_73, qy_q (v := 6) (j := 6) rfl (by omega), q6, if_pos (nI_le (Nat.le_refl _) (by omega))]
  | succ d ih =>
    intro F k hk hF
    obtain ⟨F, rfl⟩ : ∃ G, F = G + 1 := ⟨F - 1, by omega⟩
    have hs : qz_sum (fun i => if 4 ≤ Y 1 (16 + 8 * i + 3) then (0 : Int32) else 1) (k + 1) = qz_sum (fun i => if 4 ≤ Y 1 (16 + 8 * i + 3) then 0 else 1) k + (if 4 ≤ Y 1 (16 + 8 * k + 3) then 0 else 1) := rfl
    rw [f_L_isSo_73, qy_q (v := 6) (j := 6) rfl (by omega), q6, if_neg (nI_ge (by omega) (by omega)), qy_whatF (by omega), qz_bi, qc_what (hc k (by omega))]
    by_cases h4 : 4 ≤ Y 1 (16 + 8 * k + 3)
    · rw [if_pos h4] at hs ⊢
      rw [qz_nm, qz_nm, nI_1, ← hs]
      exact ih F (k + 1) (by omega) (by omega)
    · rw [if_neg h4] at hs ⊢
      rw [qz_nm, qz_nm, nI_1, ← hs]
      exact ih F (k + 1) (by omega) (by omega)
theorem qi_111 (hL : qL X (Y 1) n p) {v1 v9 v10 : Int32} (hr : r < 2 ^ 20) : ∀ (d F k c : Nat) (v12 : Int32), k + d = p → d < F → c ≤ k → qz_sum (fun i => if Y 1 (1216 + 4 * i + 0) = 2 then (1 : Int32) else 0) k = nI c → ((c ≤ r ∧ v12 = -5 ∧ qz_at (fun i => Y 1 (1216 + 4 * i + 0) = 2) p 0 r = qz_at (fun i => Y 1 (1216 + 4 * i + 0) = 2) d k (r - c)) ∨ (r < c ∧ v12 = qz_at (fun i => Y 1 (1216 + 4 * i + 0) = 2) p 0 r)) → f_L_isSo_111 N F v1 v9 v10 (nI c) v12 (nI r) (nI k) X = f_L_isSo_176 N v1 v9 v10 (qz_sum (fun i => if Y 1 (1216 + 4 * i + 0) = 2 then 1 else 0) p) (qz_at (fun i => Y 1 (1216 + 4 * i + 0) = 2) p 0 r) (nI r) X := by
  obtain ⟨hn, hp, hq, ht, hc, hg⟩ := hL
  obtain ⟨q0, q1, q2, q3, q4, q5, q6, y6, q7, _⟩ := hq
  intro d
  induction d with
  | zero =>
    intro F k c v12 hk hF hck hs hv
    obtain ⟨F, rfl⟩ : ∃ G, F = G + 1 := ⟨F - 1, by omega⟩
    have e : k = p := by omega
    subst e
    rw [f_L_isSo_111, qy_q (v := 7) (j := 7) rfl (by omega), q7, if_pos (nI_le (Nat.le_refl _) (by omega)), hs]
    rcases hv with ⟨_, u1, u2⟩ | ⟨_, u1⟩
    · rw [u1, u2]
      rfl
    · rw [u1]
  | succ d ih =>
    intro F k c v12 hk hF hck hs hv
    obtain ⟨F, rfl⟩ : ∃ G, F = G + 1 := ⟨F - 1, by omega⟩
    have h7 := qg_7 (hg k (by omega))
    have hss : qz_sum (fun i => if Y 1 (1216 + 4 * i + 0) = 2 then (1 : Int32) else 0) (k + 1) = qz_sum (fun i => if Y 1 (1216 + 4 * i + 0) = 2 then 1 else 0) k + (if Y 1 (1216 + 4 * k + 0) = 2 then 1 else 0) := rfl
    have hsu : ∀ s : Nat, qz_at (fun i => Y 1 (1216 + 4 * i + 0) = 2) (d + 1) k s = if Y 1 (1216 + 4 * k + 0) = 2 then (if s = 0 then nI k else qz_at (fun i => Y 1 (1216 + 4 * i + 0) = 2) d (k + 1) (s - 1)) else qz_at (fun i => Y 1 (1216 + 4 * i + 0) = 2) d (k + 1) s := fun s => rfl
    rw [f_L_isSo_111, qy_q (v := 7) (j := 7) rfl (by omega), q7, if_neg (nI_ge (by omega) (by omega)), qy_r rfl (show k < 48 by omega), qz_nm, h7]
    by_cases hm : Y 1 (1216 + 4 * k + 0) = 2
    · rw [if_pos hm] at hss ⊢
      rw [hs, nI_1] at hss
      by_cases hz : c = r
      · rw [if_pos (show nI c = nI r by rw [hz]), qy_r rfl (show k < 48 by omega), qz_nm, h7, if_pos hm, qz_nm, qz_nm, nI_1, nI_1]
        refine ih F (k + 1) (c + 1) (nI k) (by omega) (by omega) (by omega) hss (Or.inr ⟨by omega, ?_⟩)
        rcases hv with ⟨_, _, u2⟩ | ⟨u0, _⟩
        · rw [u2, hsu, if_pos hm, if_pos (by omega)]
        · omega
      · rw [if_neg (fun q => hz ((nI_eq (by omega) (by omega)).mp q)), qy_r rfl (show k < 48 by omega), qz_nm, h7, if_pos hm, qz_nm, qz_nm, nI_1, nI_1]
        refine ih F (k + 1) (c + 1) v12 (by omega) (by omega) (by omega) hss ?_
        rcases hv with ⟨u0, u1, u2⟩ | ⟨u0, u1⟩
        · refine Or.inl ⟨by omega, u1, ?_⟩
          rw [u2, hsu, if_pos hm, if_neg (by omega), show r - c - 1 = r - (c + 1) by omega]
        · exact Or.inr ⟨by omega, u1⟩
    · rw [if_neg hm] at hss ⊢
      rw [hs, Int32.add_zero] at hss
      rw [qy_r rfl (show k < 48 by omega), qz_nm, h7, if_neg hm, Int32.add_zero, qz_nm, qz_nm, nI_1]
      refine ih F (k + 1) c v12 (by omega) (by omega) (by omega) hss ?_
      rcases hv with ⟨u0, u1, u2⟩ | ⟨u0, u1⟩
      · refine Or.inl ⟨u0, u1, ?_⟩
        rw [u2, hsu, if_neg hm]
      · exact Or.inr ⟨u0, u1⟩
theorem qi_179 (h : qz_R X (Y 1) n p f e t 0) (hL : qL X (Y 1) n p) (hN : 200 ≤ N) {v1 v10 v11 v12 v13 : Int32} : ∀ (d F k : Nat), k + d = 4 → d < F → f_L_isSo_179 N F v1 1 v10 v11 v12 v13 (nI k) X = f_L_isSo_221 N v1 1 v10 v11 v12 v13 X := by
  intro d
  induction d with
  | zero =>
    intro F k hk hF
    obtain ⟨F, rfl⟩ : ∃ G, F = G + 1 := ⟨F - 1, by omega⟩
    rw [f_L_isSo_179, if_pos (show (4 : Int32) ≤ nI k from nI_le (a := 4) (by omega) (by omega))]
  | succ d ih =>
    intro F k hk hF
    obtain ⟨F, rfl⟩ : ∃ G, F = G + 1 := ⟨F - 1, by omega⟩
    have e2 : (2 : Int32) + nI k = nI (2 + k) := by rw [show (2 : Int32) = nI 2 from rfl, nI_add]
    rw [f_L_isSo_179, if_neg (show ¬ (4 : Int32) ≤ nI k from nI_ge (b := 4) (by omega) (by omega)), if_neg qz_10, qz_nm, qi_count h hL hN (by omega), qz_bi, e2, qz_nm, qy_q (v := nI (2 + k)) (j := 2 + k) rfl (by omega), if_pos rfl, qz_nm, nI_1]
    exact ih F (k + 1) (by omega) (by omega)
theorem qi_454 (h : qz_R X (Y 1) n p f e t 0) (hL : qL X (Y 1) n p) (hN : 200 ≤ N) (v1 : Int32) : f_L_isSo_454 N v1 1 X = some (1, X) := by
  have hL0 := hL
  obtain ⟨hn, hp, hq, ht, hc, hg⟩ := hL
  obtain ⟨q0, q1, q2, q3, q4, q5, q6, y6, q7, y7, _⟩ := hq
  have h468 : f_L_isSo_468 N 1 X = some (1, X) := by
    unfold f_L_isSo_468
    rw [qz_gd (Or.inr rfl)]
  unfold f_L_isSo_454
  rw [if_neg qz_10, qy_q (v := 6) (j := 6) rfl (by omega), q6]
  by_cases h0 : n = 0
  · subst h0
    rw [if_pos nI_0]
    exact h468
  · obtain ⟨k, hk, l1⟩ := ql_low (N := N) (X := X) (m := n) (v1 >>> ((6 : Int32) &&& 31)) (by omega) (by omega)
    have hp1 : 1 ≤ p := by
      obtain ⟨g, hg1, _⟩ := qzR_kg h k hk
      omega
    obtain ⟨j, hj, l2⟩ := ql_low (N := N) (X := X) (m := p) (v1 >>> ((12 : Int32) &&& 31)) (by omega) (by omega)
    obtain ⟨r4, hr4, l3⟩ := ql_low (N := N) (X := X) (m := 4) (v1 >>> ((18 : Int32) &&& 31)) (by omega) (by omega)
    obtain ⟨r3, hr3, l4⟩ := ql_low (N := N) (X := X) (m := 3) (v1 >>> ((20 : Int32) &&& 31)) (by omega) (by omega)
    have l3' : f_L_low N (v1 >>> ((18 : Int32) &&& 31)) 4 X = some (nI r4, X) := l3
    have l4' : f_L_low N (v1 >>> ((20 : Int32) &&& 31)) 3 X = some (nI r3, X) := l4
    have hck := hc k hk
    have c0 : f_X7_commit N (nI k) 0 X = some (Y 1 (16 + 8 * k + 0), X) := qy_commit h (w := 0) hk (by omega)
    have c1 : f_X7_commit N (nI k) 1 X = some (Y 1 (16 + 8 * k + 1), X) := qy_commit h (w := 1) hk (by omega)
    have c2 : f_X7_commit N (nI k) 2 X = some (Y 1 (16 + 8 * k + 2), X) := qy_commit h (w := 2) hk (by omega)
    have c3 : f_X7_commit N (nI k) 3 X = some (Y 1 (16 + 8 * k + 3), X) := qy_commit h (w := 3) hk (by omega)
    have c4 : f_X7_commit N (nI k) 4 X = some (Y 1 (16 + 8 * k + 4), X) := qy_commit h (w := 4) hk (by omega)
    have c5 : f_X7_commit N (nI k) 5 X = some (Y 1 (16 + 8 * k + 5), X) := qy_commit h (w := 5) hk (by omega)
    have c6 : f_X7_commit N (nI k) 6 X = some (Y 1 (16 + 8 * k + 6), X) := qy_commit h (w := 6) hk (by omega)
    have ei : X 133 k = Y 1 (16 + 8 * k + 4) := by
      obtain ⟨cl, rc, u, w, gr, me, h1, h2, h3, h4, h5, h6, e0, e1, e2, e3, e6, e7, ea, eb, ec, ed⟩ := hck
      exact eb
    have eu : X 134 k = Y 1 (16 + 8 * k + 5) := by
      obtain ⟨cl, rc, u, w, gr, me, h1, h2, h3, h4, h5, h6, e0, e1, e2, e3, e6, e7, ea, eb, ec, ed⟩ := hck
      exact ec
    have ep : nI p - 1 = nI (p - 1) := by
      have q := nI_pred (p - 1)
      rwa [show p - 1 + 1 = p by omega] at q
    rw [if_neg (nI_ne0 (by omega) (by omega)), qz_nm, qy_q (v := 6) (j := 6) rfl (by omega), q6, l1, qz_bi, c0, qz_bi, qy_r rfl (show k < 48 by omega), qz_nm, qc_cl hck, if_pos rfl]
    rw [c1, qz_bi, qy_recF (by omega), qz_bi, qc_rec hck, if_pos rfl]
    rw [c2, qz_bi, qy_r rfl (show k < 48 by omega), qz_nm, qz_nm, qc_urg hck, if_pos rfl]
    rw [c3, qz_bi, qy_whatF (by omega), qz_bi, qc_what hck, if_pos rfl]
    rw [c4, qz_bi, qy_r rfl (show k < 48 by omega), ei, if_pos rfl]
    rw [c5, qz_bi, qy_r rfl (show k < 48 by omega), eu, if_pos rfl]
    rw [c6, qz_bi, qy_r rfl (show k < 48 by omega), qz_nm, qc_gr hck, if_pos rfl, if_neg qz_10]
    rw [qz_nm, qy_q (v := 7) (j := 7) rfl (by omega), q7, l2, qz_bi, qz_nm, l3', qz_bi, qg_isGroup h hL0 hN hj (by omega), qz_bi, if_neg qz_10, qy_q (v := 7) (j := 7) rfl (by omega), q7, ep, qz_nm, qz_nm, l4', qz_bi, qg_isGroup h hL0 hN (by omega) (by omega), qz_bi, if_neg qz_10]
theorem qi_392 (h : qz_R X (Y 1) n p f e t 0) (hL : qL X (Y 1) n p) (hN : 200 ≤ N) (v1 : Int32) : f_L_isSo_392 N v1 1 X = some (1, X) := by
  have hL0 := hL
  obtain ⟨hn, hp, hq, ht, hc, hg⟩ := hL
  obtain ⟨q0, q1, q2, q3, q4, q5, q6, y6, q7, y7, _⟩ := hq
  obtain ⟨c, hc12, l1⟩ := ql_low (N := N) (X := X) (m := 12) (v1 >>> ((2 : Int32) &&& 31)) (by omega) (by omega)
  have l1' : f_L_low N (v1 >>> ((2 : Int32) &&& 31)) 12 X = some (nI c, X) := l1
  unfold f_L_isSo_392
  rw [qz_nm, l1', qz_bi, if_neg qz_10, qy_openV h hN hc12, qz_bi, qy_open q6 (by omega) hN, qL_open hc, qz_bi, if_pos rfl, qy_q (v := 6) (j := 6) rfl (by omega), q6, qy_commitNo h, qz_bi, if_pos rfl, qy_q (v := 7) (j := 7) rfl (by omega), q7, qy_groupNo h, qz_bi, if_pos rfl]
  exact qi_454 h hL0 hN v1
theorem qi_221 (h : qz_R X (Y 1) n p f e t 0) (hL : qL X (Y 1) n p) (hN : 200 ≤ N) (hr : r < 2 ^ 20) (v1 : Int32) : f_L_isSo_221 N v1 1 (qz_sum (fun i => if 4 ≤ Y 1 (16 + 8 * i + 3) then 0 else 1) n) (qz_sum (fun i => if Y 1 (1216 + 4 * i + 0) = 2 then 1 else 0) p) (qz_at (fun i => Y 1 (1216 + 4 * i + 0) = 2) p 0 r) (nI r) X = some (1, X) := by
  have hL0 := hL
  obtain ⟨hn, hp, hq, ht, hc, hg⟩ := hL
  obtain ⟨q0, q1, q2, q3, q4, q5, q6, y6, q7, y7, q8, q9, q11, q12, q13, q14, q15, q16, _⟩ := hq
  unfold f_L_isSo_221
  rw [if_neg qz_10, qy_count4 h hN, qz_bi, if_pos rfl, qy_count5 h hN, qz_bi, if_pos rfl, qy_queued h hr, qz_bi, if_pos rfl]
  rw [qy_total0 h, qz_bi, qy_q (v := 6) (j := 6) rfl (by omega), q6, y6, if_pos rfl]
  rw [qy_total1 h, qz_bi, qy_q (v := 11) (j := 11) rfl (by omega), q11, if_pos rfl]
  rw [qy_total2 h, qz_bi, qy_q (v := 12) (j := 12) rfl (by omega), q12, if_pos rfl]
  rw [qy_total3 h, qz_bi, qy_q (v := 13) (j := 13) rfl (by omega), q13, if_pos rfl]
  rw [qy_total4 h, qz_bi, qy_q (v := 7) (j := 7) rfl (by omega), q7, y7, if_pos rfl]
  rw [qy_total5 h, qz_bi, qy_q (v := 14) (j := 14) rfl (by omega), q14, if_pos rfl]
  rw [qy_total6 h, qz_bi, qy_q (v := 15) (j := 15) rfl (by omega), q15, if_pos rfl]
  rw [qy_total7 h, qz_bi, qy_q (v := 16) (j := 16) rfl (by omega), q16, if_pos rfl]
  rw [qz_gd ⟨qzR_t7 h, (qzR_t1 h).trans q11.symm⟩]
  unfold f_L_isSo_390
  exact qi_392 h hL0 hN v1
theorem qi_isSo (h : qz_R X (Y 1) n p f e t 0) (hL : qL X (Y 1) n p) (hN : 200 ≤ N) (v1 : Int32) : f_L_isSo N v1 X = some (1, X) := by
  have hL0 := hL
  obtain ⟨hn, hp, hq, ht, hc, hg⟩ := hL
  obtain ⟨q0, q1, q2, q3, q4, q5, q6, y6, q7, y7, q8, q9, _⟩ := hq
  obtain ⟨r, hr, l1⟩ := ql_low (N := N) (X := X) (m := 3) v1 (by omega) (by omega)
  have l1' : f_L_low N v1 3 X = some (nI r, X) := l1
  unfold f_L_isSo
  rw [qy_count0 h, qz_bi, qy_q (v := 0) (j := 0) rfl (by omega), q0, if_pos rfl]
  rw [qy_count1 h, qz_bi, qy_q (v := 1) (j := 1) rfl (by omega), q1, if_pos rfl]
  rw [qy_count2 h, qz_bi, qy_q (v := 8) (j := 8) rfl (by omega), q8, if_pos rfl]
  rw [qy_count3 h, qz_bi, qy_q (v := 9) (j := 9) rfl (by omega), q9, if_pos rfl]
  unfold f_L_isSo_51
  rw [l1', qz_bi]
  have a1 := qi_73 (N := N) (v1 := v1) (v9 := 1) (v11 := 0) (v12 := -5) (v13 := nI r) hL0 n N 0 (by omega) (by omega)
  have z1 : qz_sum (fun i => if 4 ≤ Y 1 (16 + 8 * i + 3) then (0 : Int32) else 1) 0 = 0 := rfl
  rw [z1, nI_0] at a1
  rw [a1]
  unfold f_L_isSo_108
  have a2 := qi_111 (N := N) (v1 := v1) (v9 := 1) (v10 := qz_sum (fun i => if 4 ≤ Y 1 (16 + 8 * i + 3) then 0 else 1) n) (r := r) hL0 (by omega) p N 0 0 (-5) (by omega) (by omega) (Nat.le_refl _) rfl (Or.inl ⟨by omega, rfl, rfl⟩)
  rw [nI_0] at a2
  rw [a2]
  unfold f_L_isSo_176
  have a3 := qi_179 (N := N) (v1 := v1) (v10 := qz_sum (fun i => if 4 ≤ Y 1 (16 + 8 * i + 3) then 0 else 1) n) (v11 := qz_sum (fun i => if Y 1 (1216 + 4 * i + 0) = 2 then 1 else 0) p) (v12 := qz_at (fun i => Y 1 (1216 + 4 * i + 0) = 2) p 0 r) (v13 := nI r) h hL0 hN 4 N 0 (by omega) (by omega)
  rw [nI_0] at a3
  rw [a3]
  exact qi_221 h hL0 hN (by omega) v1
end QI1
