-- what the class tells, as the model's row has it
section QQ2
variable {X Y : XT} {N T n p f e t b : Nat} {y : Nat → Int32}
theorem qz_rdY {α : Type} {Y : XT} {v : Int32} {w : Nat} (hv : v = nI w) (hw : w < 1816) (k : Int32 → Option α) : (m_gd (m_in v 1816) (m_nm (Y 1 v.toNatClampNeg) k)) = k (Y 1 w) := by
  subst hv
  rw [qz_gd (qz_in hw (by omega)), nI_clamp (by omega)]
  rfl
theorem qz_busyEq (h : qz_R X y n p f e t b) : qz_sum (fun i => if X 20 i = -5 then 0 else 1) 12 = qz_sum (fun i => if 4 ≤ y (16 + 8 * i + 3) then 0 else 1) n := by
  have q := qz_opens h (fun _ => 1)
  rw [q]
  refine qz_sum_c n (fun k _ => ?_)
  by_cases q1 : 4 ≤ y (16 + 8 * k + 3)
  · rw [if_neg (fun u => u q1), if_pos q1]
  · rw [if_pos q1, if_neg q1]
theorem qy_count0 (h : qz_R X y n p f e t b) : f_X7_count N 0 X = some (y 0, X) := by
  unfold f_X7_count f_X3_aboutNow
  rw [if_neg (by decide), if_neg (by decide), qz_bis, if_pos rfl, qzR_tx h, qzR_ty h]
theorem qy_count1 (h : qz_R X y n p f e t b) : f_X7_count N 1 X = some (y 1, X) := by
  unfold f_X7_count f_X3_aboutNow
  rw [if_neg (by decide), if_neg (by decide), qz_bis, if_neg (by decide), if_pos rfl, qzR_wx h]
theorem qy_count2 (h : qz_R X y n p f e t b) : f_X7_count N 2 X = some (y 8, X) := by
  unfold f_X7_count f_X3_aboutNow
  rw [if_neg (by decide), if_neg (by decide), qz_bis, if_neg (by decide), if_neg (by decide), if_pos rfl, qzR_gx h]
theorem qy_count3 (h : qz_R X y n p f e t b) : f_X7_count N 3 X = some (y 9, X) := by
  unfold f_X7_count f_X3_aboutNow
  rw [if_neg (by decide), if_neg (by decide), qz_bis, if_neg (by decide), if_neg (by decide), if_neg (by decide), if_pos rfl, qzR_vx h]
theorem qy_count4 (h : qz_R X y n p f e t b) (hN : 200 ≤ N) : f_X7_count N 4 X = some (qz_sum (fun i => if y (1216 + 4 * i + 0) = 2 then 1 else 0) p, X) := by
  unfold f_X7_count f_X3_aboutNow
  rw [if_neg (by decide), if_neg (by decide), qz_bis, if_neg (by decide), if_neg (by decide), if_neg (by decide), if_neg (by decide), if_pos rfl, qz_bis, qz_sizeQ h, qz_queueSum h]
theorem qy_count5 (h : qz_R X y n p f e t b) (hN : 200 ≤ N) : f_X7_count N 5 X = some (qz_sum (fun i => if 4 ≤ y (16 + 8 * i + 3) then 0 else 1) n, X) := by
  unfold f_X7_count f_X3_aboutNow
  rw [if_neg (by decide), if_neg (by decide), qz_bis, if_neg (by decide), if_neg (by decide), if_neg (by decide), if_neg (by decide), if_neg (by decide), if_pos rfl, qz_bis, qz_busyC hN, qz_busyEq h]
theorem qy_count6 (h : qz_R X y n p f e t b) : f_X7_count N 6 X = some (y 2, X) := by
  unfold f_X7_count f_X3_aboutNow
  rw [if_neg (by decide), if_neg (by decide), qz_bis, if_neg (by decide), if_neg (by decide), if_neg (by decide), if_neg (by decide), if_neg (by decide), if_neg (by decide), if_pos rfl, qz_nm, qz_bis, qz_valueOf (v := 6 - 6) (i := 0) (by decide) (by omega), qzR_sx h 0 (by omega)]
theorem qy_count7 (h : qz_R X y n p f e t b) : f_X7_count N 7 X = some (y 3, X) := by
  unfold f_X7_count f_X3_aboutNow
  rw [if_neg (by decide), if_neg (by decide), qz_bis, if_neg (by decide), if_neg (by decide), if_neg (by decide), if_neg (by decide), if_neg (by decide), if_neg (by decide), if_neg (by decide), if_pos rfl, qz_nm, qz_bis, qz_valueOf (v := 7 - 6) (i := 1) (by decide) (by omega), qzR_sx h 1 (by omega)]
theorem qy_count8 (h : qz_R X y n p f e t b) : f_X7_count N 8 X = some (y 4, X) := by
  unfold f_X7_count f_X3_aboutNow
  rw [if_neg (by decide), if_neg (by decide), qz_bis, if_neg (by decide), if_neg (by decide), if_neg (by decide), if_neg (by decide), if_neg (by decide), if_neg (by decide), if_neg (by decide), if_neg (by decide), if_pos rfl, qz_nm, qz_bis, qz_valueOf (v := 8 - 6) (i := 2) (by decide) (by omega), qzR_sx h 2 (by omega)]
theorem qy_count9 (h : qz_R X y n p f e t b) : f_X7_count N 9 X = some (y 5, X) := by
  unfold f_X7_count f_X3_aboutNow
  rw [if_neg (by decide), if_neg (by decide), qz_bis, if_neg (by decide), if_neg (by decide), if_neg (by decide), if_neg (by decide), if_neg (by decide), if_neg (by decide), if_neg (by decide), if_neg (by decide), if_neg (by decide), if_pos rfl, qz_nm, qz_bis, qz_valueOf (v := 9 - 6) (i := 3) (by decide) (by omega), qzR_sx h 3 (by omega)]
theorem qy_total0 (h : qz_R X y n p f e t b) : f_X7_total N 0 X = some (y 6, X) := by
  unfold f_X7_total f_X3_totalOf
  rw [qz_bis, if_neg (by decide), if_neg (by decide), qz_gd (by decide)]
  show some (X 19 0, X) = _
  rw [qzR_t0 h]
theorem qy_total1 (h : qz_R X y n p f e t b) : f_X7_total N 1 X = some (y 10, X) := by
  unfold f_X7_total f_X3_totalOf
  rw [qz_bis, if_neg (by decide), if_neg (by decide), qz_gd (by decide)]
  show some (X 19 1, X) = _
  rw [qzR_t1 h]
theorem qy_total2 (h : qz_R X y n p f e t b) : f_X7_total N 2 X = some (y 11, X) := by
  unfold f_X7_total f_X3_totalOf
  rw [qz_bis, if_neg (by decide), if_neg (by decide), qz_gd (by decide)]
  show some (X 19 2, X) = _
  rw [qzR_t2 h]
theorem qy_total3 (h : qz_R X y n p f e t b) : f_X7_total N 3 X = some (y 12, X) := by
  unfold f_X7_total f_X3_totalOf
  rw [qz_bis, if_neg (by decide), if_neg (by decide), qz_gd (by decide)]
  show some (X 19 3, X) = _
  rw [qzR_t3 h]
theorem qy_total4 (h : qz_R X y n p f e t b) : f_X7_total N 4 X = some (y 7, X) := by
  unfold f_X7_total f_X3_totalOf
  rw [qz_bis, if_neg (by decide), if_neg (by decide), qz_gd (by decide)]
  show some (X 19 4, X) = _
  rw [qzR_t4 h]
theorem qy_total5 (h : qz_R X y n p f e t b) : f_X7_total N 5 X = some (y 13, X) := by
  unfold f_X7_total f_X3_totalOf
  rw [qz_bis, if_neg (by decide), if_neg (by decide), qz_gd (by decide)]
  show some (X 19 5, X) = _
  rw [qzR_t5 h]
theorem qy_total6 (h : qz_R X y n p f e t b) : f_X7_total N 6 X = some (y 14, X) := by
  unfold f_X7_total f_X3_totalOf
  rw [qz_bis, if_neg (by decide), if_neg (by decide), qz_gd (by decide)]
  show some (X 19 6, X) = _
  rw [qzR_t6 h]
theorem qy_total7 (h : qz_R X y n p f e t b) : f_X7_total N 7 X = some (y 15, X) := by
  unfold f_X7_total f_X3_totalOf
  rw [qz_bis, if_neg (by decide), if_neg (by decide), qz_gd (by decide)]
  show some (X 19 7, X) = _
  rw [qzR_t7 h]
theorem qy_what6 {w : Nat} (hw : w ≤ 6) (W : XT) : f_X8_within N (nI w) 0 6 W = some (1, W) := by
  unfold f_X8_within
  rw [if_neg (nI_pos (by omega)), if_neg (show ¬ (6 : Int32) < nI w from nI_nlt (a := 6) (b := w) hw (by omega))]
theorem qy_commit (h : qz_R X (Y 1) n p f e t b) {j w : Nat} (hj : j < n) (hw : w ≤ 6) : f_X7_commit N (nI j) (nI w) X = some (Y 1 (16 + 8 * j + w), X) := by
  obtain ⟨r, h1, h2⟩ := qz_commitV (N := N) h (nI j) (nI w)
  have hn0 := qzR_nn h
  have q : f_X8_commit N (nI j) (nI w) (m_up Y 1 (Y 1)) = some (Y 1 (16 + 8 * j + w), m_up Y 1 (Y 1)) := by
    unfold f_X8_commit
    rw [qz_rd (v := 6) (w := 6) rfl (by omega), qzR_ny h, qz_nm, qz_idxIn hn0 hj, qz_bi, if_neg qz_10, qy_what6 hw, qz_bi, if_neg qz_10, qz_of rfl (by omega) (by omega), qz_bi]
  rw [qz_ue, h2] at q
  cases q
  exact h1
theorem qy_commitNo (h : qz_R X (Y 1) n p f e t b) (w : Int32) : f_X7_commit N (nI n) w X = some (-1, X) := by
  have hn0 := qzR_nn h
  unfold f_X7_commit f_X3_aboutCommit
  rw [qz_bis, qz_hasNo (qzR_nx h) (Or.inr ⟨nI_pos (by omega), nI_le (Nat.le_refl _) (by omega)⟩), qz_bi, if_pos rfl]
theorem qy_groupNo (h : qz_R X (Y 1) n p f e t b) (w : Int32) : f_X7_group N (nI p) w X = some (-1, X) := by
  have hp0 := (qzR_pn h).1
  unfold f_X7_group f_X3_aboutGroup
  rw [qz_bis, qz_hasGNo (qzR_px h) (Or.inr ⟨nI_pos (by omega), nI_le (Nat.le_refl _) (by omega)⟩), qz_bi, if_pos rfl]
/-- what is told of a group -/
def qy_g (y : Nat → Int32) (n j w : Nat) : Int32 := match w with
  | 0 => y (1216 + 4 * j + 0)
  | 1 => qz_mem y n (nI j)
  | 2 => qz_rec y n (nI j)
  | 3 => if y (1216 + 4 * j + 0) = 1 then y (16 + 8 * (qz_at (fun i => qz_mb y i (nI j)) n 0 0).toNatClampNeg + 0) else -5
  | 4 => if y (1216 + 4 * j + 0) = 1 then y (1216 + 4 * j + 1) else -5
  | 5 => y (1216 + 4 * j + 2)
  | _ => if y (1216 + 4 * j + 0) = 3 then y (1216 + 4 * j + 3) else -5
theorem qy_group (h : qz_R X (Y 1) n p f e t 0) (hN : 200 ≤ N) {j w : Nat} (hj : j < p) (hw : w ≤ 6) : f_X7_group N (nI j) (nI w) X = some (qy_g (Y 1) n j w, X) := by
  obtain ⟨r, h1, h2⟩ := qz_groupV (N := N) h hN (nI j) (nI w)
  have hn0 := qzR_nn h
  have hp0 := (qzR_pn h).1
  have q : f_X8_group N (nI j) (nI w) (m_up Y 1 (Y 1)) = some (qy_g (Y 1) n j w, m_up Y 1 (Y 1)) := by
    unfold f_X8_group
    rw [qz_rd (v := 7) (w := 7) rfl (by omega), qzR_py h, qz_nm, qz_idxIn hp0 hj, qz_bi, if_neg qz_10, qy_what6 hw, qz_bi, if_neg qz_10, qz_bis]
    have hT : f_X8_tellsGroup N (nI j) (nI w) (m_up Y 1 (Y 1)) = f_X8_tellsGroup_15 N (nI j) (nI w) (if Y 1 (1216 + 4 * j + 0) = 1 then 1 else 0) (m_up Y 1 (Y 1)) := by
      unfold f_X8_tellsGroup
      rw [qz_ofG (v := 0) (w := 0) rfl (by omega) (by omega), qz_bi]
      split <;> rfl
    rw [hT]
    unfold f_X8_tellsGroup_15
    have hc : w = 0 ∨ w = 1 ∨ w = 2 ∨ w = 3 ∨ w = 4 ∨ w = 5 ∨ w = 6 := by omega
    rcases hc with rfl | rfl | rfl | rfl | rfl | rfl | rfl
    · rw [if_pos nI_0, qz_ofG (v := 0) (w := 0) rfl (by omega) (by omega), qz_bi]
      rfl
    · rw [if_neg (by decide), if_pos (show nI 1 = 1 from rfl), qz_members (qzR_ny h) hn0 hN, qz_bi]
      rfl
    · rw [if_neg (by decide), if_neg (by decide), if_pos (show nI 2 = 2 from rfl), qz_records (qzR_ny h) hn0 hN, qz_bi]
      rfl
    · rw [if_neg (show ¬ nI 3 = 0 by decide), if_neg (show ¬ nI 3 = 1 by decide), if_neg (show ¬ nI 3 = 2 by decide), if_pos (show nI 3 = 3 from rfl)]
      show _ = some (if Y 1 (1216 + 4 * j + 0) = 1 then Y 1 (16 + 8 * (qz_at (fun i => qz_mb (Y 1) i (nI j)) n 0 0).toNatClampNeg + 0) else -5, m_up Y 1 (Y 1))
      by_cases hg : Y 1 (1216 + 4 * j + 0) = 1
      · rw [if_pos hg, if_pos hg, if_neg qz_10]
        have q2 := qz_memberAt (N := N) (Z := Y) (g := nI j) (r := 0) (qzR_ny h) hn0 hN (by omega)
        rw [nI_0] at q2
        rw [q2, qz_bi]
        obtain ⟨k, k1, k2, k3⟩ := qzR_gi h (by decide) (by rw [← (qz_gath h hj).mpr hg]; exact qz_n5 (by omega))
        rw [← (qz_gath h hj).mpr hg] at k2
        rcases qz_at_0 (P := fun i => qz_mb (Y 1) i (nI j)) n 0 with ⟨u1, u2⟩ | ⟨i, u1, u2, u3, u4, u5⟩
        · exact absurd ⟨k2, k3⟩ (u2 k (Nat.zero_le _) (by omega))
        · rw [u4, qz_of (v := 0) (w := 0) rfl (by omega) (by omega), qz_bi, nI_clamp (by omega)]
      · rw [if_neg hg, if_neg hg, if_pos rfl]
    · rw [if_neg (show ¬ nI 4 = 0 by decide), if_neg (show ¬ nI 4 = 1 by decide), if_neg (show ¬ nI 4 = 2 by decide), if_neg (show ¬ nI 4 = 3 by decide), if_pos (show nI 4 = 4 from rfl)]
      show _ = some (if Y 1 (1216 + 4 * j + 0) = 1 then Y 1 (1216 + 4 * j + 1) else -5, m_up Y 1 (Y 1))
      by_cases hg : Y 1 (1216 + 4 * j + 0) = 1
      · rw [if_pos hg, if_pos hg, if_neg qz_10, qz_ofG (v := 1) (w := 1) rfl (by omega) (by omega), qz_bi]
      · rw [if_neg hg, if_neg hg, if_pos rfl]
    · rw [if_neg (by decide), if_neg (by decide), if_neg (by decide), if_neg (by decide), if_neg (by decide), if_pos (show nI 5 = 5 from rfl), qz_ofG (v := 2) (w := 2) rfl (by omega) (by omega), qz_bi]
      rfl
    · rw [if_neg (show ¬ nI 6 = 0 by decide), if_neg (show ¬ nI 6 = 1 by decide), if_neg (show ¬ nI 6 = 2 by decide), if_neg (show ¬ nI 6 = 3 by decide), if_neg (show ¬ nI 6 = 4 by decide), if_neg (show ¬ nI 6 = 5 by decide), qz_ofG (v := 0) (w := 0) rfl (by omega) (by omega), qz_bi]
      show _ = some (if Y 1 (1216 + 4 * j + 0) = 3 then Y 1 (1216 + 4 * j + 3) else -5, m_up Y 1 (Y 1))
      by_cases hg : Y 1 (1216 + 4 * j + 0) = 3
      · rw [if_pos hg, if_pos hg, qz_ofG (v := 3) (w := 3) rfl (by omega) (by omega), qz_bi]
      · rw [if_neg hg, if_neg hg]
  rw [qz_ue, h2] at q
  cases q
  exact h1
theorem qy_member (h : qz_R X y n p f e t b) (hN : 200 ≤ N) {j r : Nat} (hj : j < p) (hr : r < 2 ^ 31) : f_X7_member N (nI j) (nI r) X = some (qz_at (fun i => qz_mb y i (nI j)) n 0 r, X) := by
  have hp0 := (qzR_pn h).1
  unfold f_X7_member f_X3_memberAt
  rw [qz_bis, qz_hasG (qzR_px h) hj hp0, qz_bi, if_neg qz_10, if_pos (nI_pos' hr), qz_bis, qz_memEq h hN hr]
theorem qy_openV (h : qz_R X y n p f e t b) (hN : 200 ≤ N) {c : Nat} (hc : c < 12) : f_X7_open N (nI c) X = some (qz_at (fun i => y (16 + 8 * i + 0) = nI c ∧ ¬ 4 ≤ y (16 + 8 * i + 3)) n 0 0, X) := by
  unfold f_X7_open
  rw [qz_isClientC hc, qz_bi, if_neg qz_10, qz_openC hc, qz_bi, qz_openV h hc]
theorem qy_queued (h : qz_R X y n p f e t b) {r : Nat} (r1 : r < 2 ^ 20) : f_X7_queued N (nI r) X = some (qz_at (fun i => y (1216 + 4 * i + 0) = 2) p 0 r, X) := by
  have hp0 := (qzR_pn h).1
  have hqb := qzR_qb h
  have q4 : qz_at (fun i => y (1216 + 4 * i + 0) = 2) p 0 r = if f + r < e then X 16 (f + r) else -5 := qz_queue h r
  unfold f_X7_queued f_X3_queuedAt
  rw [if_pos (nI_pos' (by omega)), qz_bis, qz_bis, q4]
  unfold f_X4_at
  rw [if_neg (nI_pos (by omega)), qz_sizeQ h, qz_bi]
  by_cases hr : f + r < e
  · rw [if_neg (nI_ge (by omega) (by omega)), if_pos hr, qzR_qf h, nI_add, qz_nm, qz_gd (qz_in (by omega) (by omega)), nI_clamp (by omega), qz_nm]
  · rw [if_pos (nI_le (by omega) (by omega)), if_neg hr]
end QQ2
