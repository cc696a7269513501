-- the calls that ask
section QQ
variable {X Y : XT} {N T n p f e t b : Nat} {y : Nat → Int32}
theorem qz_10 : ¬ (1 : Int32) = 0 := by decide
theorem qz_predlt {m j : Nat} (hm : m ≤ 150) (hj : j < 2 ^ 31) : nI m - 1 < nI j ↔ m ≤ j := by
  rw [Int32.lt_iff_toInt_lt, show (1 : Int32) = nI 1 from rfl, pk_sub_toInt (by omega) (by omega), nI_toInt hj]
  omega
/-- an index is asked for alike -/
theorem qz_idx (v : Int32) {m : Nat} (hm : m ≤ 150) : (∃ j : Nat, j < m ∧ v = nI j) ∨ ((v < 0 ∨ (¬ v < 0 ∧ nI m ≤ v)) ∧ ∀ W : XT, f_X8_within N v 0 (nI m - 1) W = some (0, W)) := by
  by_cases h1 : v < 0
  · refine Or.inr ⟨Or.inl h1, fun W => ?_⟩
    unfold f_X8_within
    rw [if_pos h1]
  · obtain ⟨j, j1, rfl⟩ := nI_of h1
    by_cases h2 : j < m
    · exact Or.inl ⟨j, h2, rfl⟩
    · refine Or.inr ⟨Or.inr ⟨h1, nI_le (by omega) j1⟩, fun W => ?_⟩
      unfold f_X8_within
      rw [if_neg h1, if_pos ((qz_predlt hm j1).mpr (by omega))]
theorem qz_idxIn {m j : Nat} (hm : m ≤ 150) (hj : j < m) {W : XT} : f_X8_within N (nI j) 0 (nI m - 1) W = some (1, W) := by
  unfold f_X8_within
  rw [if_neg (nI_pos (by omega)), if_neg (fun q => by rw [qz_predlt hm (by omega)] at q; omega)]
theorem qz_hasNo {v : Int32} (h : X 1 8 = nI n) (hv : v < 0 ∨ (¬ v < 0 ∧ nI n ≤ v)) : f_X0_has N v X = some (0, X) := by
  unfold f_X0_has
  rcases hv with q | ⟨q1, q2⟩
  · rw [if_pos q]
  · rw [if_neg q1, h, if_pos q2]
theorem qz_hasGNo {v : Int32} (h : X 10 4 = nI p) (hv : v < 0 ∨ (¬ v < 0 ∧ nI p ≤ v)) : f_X1_has N v X = some (0, X) := by
  unfold f_X1_has
  rcases hv with q | ⟨q1, q2⟩
  · rw [if_pos q]
  · rw [if_neg q1, h, if_pos q2]
theorem qz_what (v : Int32) : (∃ w : Nat, w ≤ 6 ∧ v = nI w ∧ ∀ W : XT, f_X8_within N v 0 6 W = some (1, W)) ∨ ((∀ w : Nat, w ≤ 6 → v ≠ nI w) ∧ ∀ W : XT, f_X8_within N v 0 6 W = some (0, W)) := by
  by_cases h1 : v < 0
  · refine Or.inr ⟨fun w hw q => ?_, fun W => ?_⟩
    · rw [q] at h1; exact nI_pos (by omega) h1
    · unfold f_X8_within; rw [if_pos h1]
  · by_cases h2 : 6 < v
    · refine Or.inr ⟨fun w hw q => ?_, fun W => ?_⟩
      · rw [q] at h2; exact nI_nlt (a := 6) (b := w) hw (by omega) h2
      · unfold f_X8_within; rw [if_neg h1, if_pos h2]
    · obtain ⟨j, j1, j2, j3⟩ := (qz_within (v := v) (a := 0) (c := 6) (u := 0) (w := 6) rfl rfl (by omega) (by omega)).mp ⟨h1, h2⟩
      refine Or.inl ⟨j, j2, j3, fun W => ?_⟩
      unfold f_X8_within
      rw [if_neg h1, if_neg h2]
theorem qz_commitV (h : qz_R X (Y 1) n p f e t b) (v1 v2 : Int32) : ∃ r : Int32, f_X7_commit N v1 v2 X = some (r, X) ∧ f_X8_commit N v1 v2 Y = some (r, Y) := by
  have hn0 := qzR_nn h
  have eY : m_up Y 1 (Y 1) = Y := qz_ue Y 1
  have hM : f_X8_commit N v1 v2 Y = m_bi (f_X8_within N v1 0 (nI n - 1) Y) fun r_6 X_6 => if r_6 = 0 then (some ((-1), X_6)) else (m_bi (f_X8_within N v2 0 6 X_6) fun r_11 X_11 => if r_11 = 0 then (some ((-2), X_11)) else (m_bi (f_X8_of N v1 v2 X_11) fun r_16 X_16 => some (r_16, X_16))) := by
    have q : f_X8_commit N v1 v2 (m_up Y 1 (Y 1)) = m_bi (f_X8_within N v1 0 (nI n - 1) (m_up Y 1 (Y 1))) fun r_6 X_6 => if r_6 = 0 then (some ((-1), X_6)) else (m_bi (f_X8_within N v2 0 6 X_6) fun r_11 X_11 => if r_11 = 0 then (some ((-2), X_11)) else (m_bi (f_X8_of N v1 v2 X_11) fun r_16 X_16 => some (r_16, X_16))) := by
      unfold f_X8_commit
      rw [qz_rd (v := 6) (w := 6) rfl (by omega), qzR_ny h, qz_nm]
    rwa [eY] at q
  rw [hM]
  unfold f_X7_commit f_X3_aboutCommit
  rw [qz_bis]
  rcases qz_idx (N := N) v1 hn0 with ⟨j, hj, rfl⟩ | ⟨q1, q2⟩
  · rw [qz_has (qzR_nx h) hj hn0, qz_bi, if_neg qz_10, qz_idxIn hn0 hj, qz_bi, if_neg qz_10]
    rcases qz_what (N := N) v2 with ⟨w, hw, rfl, hin⟩ | ⟨hno, hout⟩
    · rw [hin, qz_bi, if_neg qz_10, qz_bis, qz_bis, qz_bis, qz_bis, qz_bis, qz_bis, qz_bis]
      have hof : f_X8_of N (nI j) (nI w) Y = some (Y 1 (16 + 8 * j + w), Y) := by
        have q := qz_of (N := N) (Z := Y) (y := Y 1) (k := j) (w := w) (v := nI w) rfl (by omega) (by omega)
        rwa [eY] at q
      rw [hof]
      refine ⟨_, ?_, rfl⟩
      have hc : w = 0 ∨ w = 1 ∨ w = 2 ∨ w = 3 ∨ w = 4 ∨ w = 5 ∨ w = 6 := by omega
      rcases hc with rfl | rfl | rfl | rfl | rfl | rfl | rfl
      · rw [if_pos nI_0, qz_clientOf (qzR_nx h) hj hn0, qzR_c2 h j hj]
      · rw [if_neg (by decide), if_pos (show nI 1 = 1 from rfl), qz_recordsOfC (qzR_nx h) hj hn0, qzR_c3 h j hj]
      · rw [if_neg (by decide), if_neg (by decide), if_pos (show nI 2 = 2 from rfl)]
        unfold f_X0_isUrgent
        rw [qz_has (qzR_nx h) hj hn0, qz_bi, if_neg (by decide), qz_gd (qz_in (by omega) (by omega)), nI_clamp (by omega), qz_nm, ← qzR_c4 h j hj]
        rcases qzR_b4 h j (by omega) with q | q
        · rw [q, if_pos rfl, qz_bi, if_pos rfl]
        · rw [q, if_neg (by decide), qz_bi, if_neg (by decide)]
      · rw [if_neg (by decide), if_neg (by decide), if_neg (by decide), if_pos (show nI 3 = 3 from rfl), qz_stateOf (qzR_nx h) hj hn0, qzR_c5 h j hj]
      · rw [if_neg (by decide), if_neg (by decide), if_neg (by decide), if_neg (by decide), if_pos (show nI 4 = 4 from rfl), qz_submitTimeOf (qzR_nx h) hj hn0, qzR_c6 h j hj]
      · rw [if_neg (by decide), if_neg (by decide), if_neg (by decide), if_neg (by decide), if_neg (by decide), if_pos (show nI 5 = 5 from rfl)]
        unfold f_X0_answerTimeOf
        rw [qz_has (qzR_nx h) hj hn0, qz_bi, if_neg (by decide), qz_gd (qz_in (by omega) (by omega)), nI_clamp (by omega), qz_nm, qzR_c7 h j hj]
      · rw [if_neg (by decide), if_neg (by decide), if_neg (by decide), if_neg (by decide), if_neg (by decide), if_neg (by decide), if_pos (show nI 6 = 6 from rfl), qz_groupOf (qzR_nx h) hj hn0, qzR_c8 h j hj]
    · rw [hout, qz_bi, if_pos rfl, if_neg (show ¬ v2 = 0 from hno 0 (by omega)), if_neg (show ¬ v2 = 1 from hno 1 (by omega)), if_neg (show ¬ v2 = 2 from hno 2 (by omega)), if_neg (show ¬ v2 = 3 from hno 3 (by omega)), if_neg (show ¬ v2 = 4 from hno 4 (by omega)), if_neg (show ¬ v2 = 5 from hno 5 (by omega)), if_neg (show ¬ v2 = 6 from hno 6 (by omega))]
      exact ⟨-2, rfl, rfl⟩
  · rw [qz_hasNo (qzR_nx h) q1, q2, qz_bi, qz_bi, if_pos rfl, if_pos rfl]
    exact ⟨-1, rfl, rfl⟩
/-- which group gathers, which is written: both tell alike -/
theorem qz_gath (h : qz_R X y n p f e t b) {j : Nat} (hj : j < p) : nI j = y 8 ↔ y (1216 + 4 * j + 0) = 1 := by
  have hp0 := (qzR_pn h).1
  constructor
  · intro q
    rcases qzR_ga h with u | ⟨j2, _, u2, u3, _⟩
    · exact absurd (q.trans u) (qz_n5 (by omega))
    · rw [← q, nI_eq (by omega) (by omega)] at u2
      rw [u2]; exact u3
  · intro q
    exact (qzR_gu h j hj q).symm
theorem qz_writ (h : qz_R X y n p f e t b) {j : Nat} (hj : j < p) : nI j = y 9 ↔ y (1216 + 4 * j + 0) = 3 := by
  have hp0 := (qzR_pn h).1
  constructor
  · intro q
    rcases qzR_wa h with u | ⟨j2, _, u2, u3, _⟩
    · exact absurd (q.trans u) (qz_n5 (by omega))
    · rw [← q, nI_eq (by omega) (by omega)] at u2
      rw [u2]; exact u3
  · intro q
    exact (qzR_wu h j hj q).symm
theorem qz_memEq (h : qz_R X y n p f e t b) (hN : 200 ≤ N) {r : Nat} (hr : r < 2 ^ 31) (g : Int32) : f_X0_memberAt N g (nI r) X = some (qz_at (fun i => qz_mb y i g) n 0 r, X) := by
  rw [qz_memberAtC (qzR_nx h) (qzR_nn h) (fun k hk => qzR_b9 h k (by have := qzR_nn h; omega)) hr hN]
  rw [qz_at_c n 0 r (fun i _ hi => by rw [qzR_c8 h i (by omega), qzR_c9 h i (by omega)])]
theorem qz_groupV (h : qz_R X (Y 1) n p f e t 0) (hN : 200 ≤ N) (v1 v2 : Int32) : ∃ r : Int32, f_X7_group N v1 v2 X = some (r, X) ∧ f_X8_group N v1 v2 Y = some (r, Y) := by
  have hn0 := qzR_nn h
  have hp0 := (qzR_pn h).1
  have eY : m_up Y 1 (Y 1) = Y := qz_ue Y 1
  have hof : ∀ j w : Nat, j < p → w < 4 → f_X8_ofGroup N (nI j) (nI w) Y = some (Y 1 (1216 + 4 * j + w), Y) := fun j w hj hw => by
    have q := qz_ofG (N := N) (Z := Y) (y := Y 1) (k := j) (w := w) (v := nI w) rfl (by omega) hw
    rwa [eY] at q
  have hM : f_X8_group N v1 v2 Y = m_bi (f_X8_within N v1 0 (nI p - 1) Y) fun r_6 X_6 => if r_6 = 0 then (some ((-1), X_6)) else (m_bi (f_X8_within N v2 0 6 X_6) fun r_11 X_11 => if r_11 = 0 then (some ((-2), X_11)) else (m_bi (f_X8_tellsGroup N v1 v2 X_11) fun r_16 X_16 => some (r_16, X_16))) := by
    have q : f_X8_group N v1 v2 (m_up Y 1 (Y 1)) = m_bi (f_X8_within N v1 0 (nI p - 1) (m_up Y 1 (Y 1))) fun r_6 X_6 => if r_6 = 0 then (some ((-1), X_6)) else (m_bi (f_X8_within N v2 0 6 X_6) fun r_11 X_11 => if r_11 = 0 then (some ((-2), X_11)) else (m_bi (f_X8_tellsGroup N v1 v2 X_11) fun r_16 X_16 => some (r_16, X_16))) := by
      unfold f_X8_group
      rw [qz_rd (v := 7) (w := 7) rfl (by omega), qzR_py h, qz_nm]
    rwa [eY] at q
  rw [hM]
  unfold f_X7_group f_X3_aboutGroup
  rw [qz_bis]
  rcases qz_idx (N := N) v1 hp0 with ⟨j, hj, rfl⟩ | ⟨q1, q2⟩
  · rw [qz_hasG (qzR_px h) hj hp0, qz_bi, if_neg qz_10, qz_idxIn hp0 hj, qz_bi, if_neg qz_10]
    rcases qz_what (N := N) v2 with ⟨w, hw, rfl, hin⟩ | ⟨hno, hout⟩
    · rw [hin, qz_bi, if_neg qz_10, qz_bis]
      have hT : f_X8_tellsGroup N (nI j) (nI w) Y = f_X8_tellsGroup_15 N (nI j) (nI w) (if Y 1 (1216 + 4 * j + 0) = 1 then 1 else 0) Y := by
        unfold f_X8_tellsGroup
        rw [show (0 : Int32) = nI 0 from rfl, hof j 0 hj (by omega), qz_bi]
        split <;> rfl
      rw [hT]
      unfold f_X8_tellsGroup_15
      have hc : w = 0 ∨ w = 1 ∨ w = 2 ∨ w = 3 ∨ w = 4 ∨ w = 5 ∨ w = 6 := by omega
      have hmem : f_X8_members N (nI j) Y = some (qz_mem (Y 1) n (nI j), Y) := by
        have q := qz_members (N := N) (Z := Y) (g := nI j) (qzR_ny h) hn0 hN
        rwa [eY] at q
      have hrec : f_X8_recordsOf N (nI j) Y = some (qz_rec (Y 1) n (nI j), Y) := by
        have q := qz_records (N := N) (Z := Y) (g := nI j) (qzR_ny h) hn0 hN
        rwa [eY] at q
      rcases hc with rfl | rfl | rfl | rfl | rfl | rfl | rfl
      · rw [if_pos nI_0, if_pos nI_0, show f_X8_ofGroup N (nI j) 0 Y = f_X8_ofGroup N (nI j) (nI 0) Y from rfl, hof j 0 hj (by omega), qz_stateG (qzR_px h) hj hp0, qz_bi, qz_bi, qzR_g11 h j hj]
        exact ⟨_, rfl, rfl⟩
      · rw [if_neg (by decide), if_pos (show nI 1 = 1 from rfl), if_neg (by decide), if_pos (show nI 1 = 1 from rfl), hmem, qz_membersG (qzR_px h) hj hp0, qz_bi, qz_bi, qzR_g12 h j hj]
        exact ⟨_, rfl, rfl⟩
      · rw [if_neg (by decide), if_neg (by decide), if_pos (show nI 2 = 2 from rfl), if_neg (by decide), if_neg (by decide), if_pos (show nI 2 = 2 from rfl), hrec, qz_recordsG (qzR_px h) hj hp0, qz_bi, qz_bi, qzR_g13 h j hj]
        exact ⟨_, rfl, rfl⟩
      · rw [if_neg (show ¬ nI 3 = 0 by decide), if_neg (show ¬ nI 3 = 1 by decide), if_neg (show ¬ nI 3 = 2 by decide), if_pos (show nI 3 = 3 from rfl), if_neg (show ¬ nI 3 = 0 by decide), if_neg (show ¬ nI 3 = 1 by decide), if_neg (show ¬ nI 3 = 2 by decide), if_pos (show nI 3 = 3 from rfl), qzR_gx h]
        by_cases hg : Y 1 (1216 + 4 * j + 0) = 1
        · rw [if_pos ((qz_gath h hj).mpr hg), if_pos hg, if_neg qz_10]
          have q := qz_memEq h hN (r := 0) (by omega) (nI j)
          have q2 := qz_memberAt (N := N) (Z := Y) (g := nI j) (r := 0) (qzR_ny h) hn0 hN (by omega)
          rw [nI_0] at q q2
          rw [eY] at q2
          rw [q, q2, qz_bi, qz_bi]
          obtain ⟨k, k1, k2, k3⟩ := qzR_gi h (by decide) (by rw [← (qz_gath h hj).mpr hg]; exact qz_n5 (by omega))
          rw [← (qz_gath h hj).mpr hg] at k2
          rcases qz_at_0 (P := fun i => qz_mb (Y 1) i (nI j)) n 0 with ⟨u1, u2⟩ | ⟨i, u1, u2, u3, u4, u5⟩
          · exact absurd ⟨k2, k3⟩ (u2 k (Nat.zero_le _) (by omega))
          · have hof2 := qz_of (N := N) (Z := Y) (y := Y 1) (k := i) (w := 0) (v := 0) rfl (by omega) (by omega)
            rw [eY] at hof2
            rw [u4, hof2, qz_clientOf (qzR_nx h) (by omega) hn0, qz_bi, qz_bi, qzR_c2 h i (by omega)]
            exact ⟨_, rfl, rfl⟩
        · rw [if_neg (fun q => hg ((qz_gath h hj).mp q)), if_neg hg, if_pos rfl]
          exact ⟨_, rfl, rfl⟩
      · rw [if_neg (show ¬ nI 4 = 0 by decide), if_neg (show ¬ nI 4 = 1 by decide), if_neg (show ¬ nI 4 = 2 by decide), if_neg (show ¬ nI 4 = 3 by decide), if_pos (show nI 4 = 4 from rfl), if_neg (show ¬ nI 4 = 0 by decide), if_neg (show ¬ nI 4 = 1 by decide), if_neg (show ¬ nI 4 = 2 by decide), if_neg (show ¬ nI 4 = 3 by decide), if_pos (show nI 4 = 4 from rfl), qzR_gx h]
        by_cases hg : Y 1 (1216 + 4 * j + 0) = 1
        · have q8 := (qz_gath h hj).mpr hg
          rw [if_pos q8, if_pos hg, if_neg qz_10, show f_X8_ofGroup N (nI j) 1 Y = f_X8_ofGroup N (nI j) (nI 1) Y from rfl, hof j 1 hj (by omega), qz_bi]
          rcases qzR_ga h with u | ⟨j2, _, u2, _, u4, _⟩
          · exact absurd (q8.trans u) (qz_n5 (by omega))
          · rw [← q8, nI_eq (by omega) (by omega)] at u2
            rw [u4, u2]
            exact ⟨_, rfl, rfl⟩
        · rw [if_neg (fun q => hg ((qz_gath h hj).mp q)), if_neg hg, if_pos rfl]
          exact ⟨_, rfl, rfl⟩
      · rw [if_neg (by decide), if_neg (by decide), if_neg (by decide), if_neg (by decide), if_neg (by decide), if_pos (show nI 5 = 5 from rfl), if_neg (by decide), if_neg (by decide), if_neg (by decide), if_neg (by decide), if_neg (by decide), if_pos (show nI 5 = 5 from rfl), show f_X8_ofGroup N (nI j) 2 Y = f_X8_ofGroup N (nI j) (nI 2) Y from rfl, hof j 2 hj (by omega), qz_reasonG (qzR_px h) hj hp0, qz_bi, qz_bi, qzR_g14 h j hj]
        exact ⟨_, rfl, rfl⟩
      · rw [if_neg (show ¬ nI 6 = 0 by decide), if_neg (show ¬ nI 6 = 1 by decide), if_neg (show ¬ nI 6 = 2 by decide), if_neg (show ¬ nI 6 = 3 by decide), if_neg (show ¬ nI 6 = 4 by decide), if_neg (show ¬ nI 6 = 5 by decide), if_pos (show nI 6 = 6 from rfl), if_neg (show ¬ nI 6 = 0 by decide), if_neg (show ¬ nI 6 = 1 by decide), if_neg (show ¬ nI 6 = 2 by decide), if_neg (show ¬ nI 6 = 3 by decide), if_neg (show ¬ nI 6 = 4 by decide), if_neg (show ¬ nI 6 = 5 by decide), show f_X8_ofGroup N (nI j) 0 Y = f_X8_ofGroup N (nI j) (nI 0) Y from rfl, hof j 0 hj (by omega), qz_bi, qzR_vx h]
        by_cases hg : Y 1 (1216 + 4 * j + 0) = 3
        · have q8 := (qz_writ h hj).mpr hg
          rw [if_pos q8, if_pos hg, show f_X8_ofGroup N (nI j) 3 Y = f_X8_ofGroup N (nI j) (nI 3) Y from rfl, hof j 3 hj (by omega), qz_bi]
          rcases qzR_wa h with u | ⟨j2, _, u2, _, u4, _⟩
          · exact absurd (q8.trans u) (qz_n5 (by omega))
          · rw [← q8, nI_eq (by omega) (by omega)] at u2
            rw [u4, u2]
            exact ⟨_, rfl, rfl⟩
        · rw [if_neg (fun q => hg ((qz_writ h hj).mp q)), if_neg hg]
          exact ⟨_, rfl, rfl⟩
    · rw [hout, qz_bi, if_pos rfl, if_neg (show ¬ v2 = 0 from hno 0 (by omega)), if_neg (show ¬ v2 = 1 from hno 1 (by omega)), if_neg (show ¬ v2 = 2 from hno 2 (by omega)), if_neg (show ¬ v2 = 3 from hno 3 (by omega)), if_neg (show ¬ v2 = 4 from hno 4 (by omega)), if_neg (show ¬ v2 = 5 from hno 5 (by omega)), if_neg (show ¬ v2 = 6 from hno 6 (by omega))]
      exact ⟨-2, rfl, rfl⟩
  · rw [qz_hasGNo (qzR_px h) q1, q2, qz_bi, qz_bi, if_pos rfl, if_pos rfl]
    exact ⟨-1, rfl, rfl⟩
end QQ
