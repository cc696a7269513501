-- isGroup: what the class tells of a group is what the law's numbers say
section QG1
variable {N T n p f e t j r c k : Nat} {X Y : XT} {y : Nat → Int32}
theorem ql_low {m : Nat} (x : Int32) (h1 : 1 ≤ m) (h2 : m < 2 ^ 20) : ∃ q : Nat, q < m ∧ f_L_low N x (nI m) X = some (nI q, X) := by
  have e1 : x &&& 2147483647 = nI (x.toBitVec.toNat % 2 ^ 31) := pk_and x 31 (by decide +kernel)
  refine ⟨x.toBitVec.toNat % 2 ^ 31 % m, Nat.mod_lt _ (by omega), ?_⟩
  unfold f_L_low
  rw [qz_nm, qz_gd (nI_ne0 (by omega) (by omega)), e1, pk_rem (Nat.mod_lt _ (by decide)) (by omega) (by omega), qz_nm]
theorem qg_sub0 {a b : Nat} (ha : a < 2 ^ 30) (hb : b < 2 ^ 30) : nI a - nI b = 0 ↔ a = b := by
  constructor
  · intro h
    have q := pk_sub_toInt ha hb
    rw [h] at q
    have z : (0 : Int32).toInt = 0 := rfl
    omega
  · rintro rfl
    rw [pk_sub (Nat.le_refl _), Nat.sub_self]
    rfl
/-- the loop for a member at a place -/
theorem qg_48 (h6 : X 131 6 = nI n) (hn : n ≤ 48) {v2 v8 v9 v10 : Int32} {g r : Nat} (hr : r < 2 ^ 20) : ∀ (d F k c : Nat) (v11 : Int32), k + d = n → d < F → c ≤ k → ((c ≤ r ∧ v11 = -5 ∧ qz_at (fun i => X 135 i = nI (2 * g)) n 0 r = qz_at (fun i => X 135 i = nI (2 * g)) d k (r - c)) ∨ (r < c ∧ v11 = qz_at (fun i => X 135 i = nI (2 * g)) n 0 r)) → f_L_isGroup_48 N F (nI g) v2 v8 v9 v10 v11 (nI r - nI c) (nI k) X = f_L_isGroup_109 N (nI g) v2 v8 v9 v10 (qz_at (fun i => X 135 i = nI (2 * g)) n 0 r) X := by
  intro d
  induction d with
  | zero =>
    intro F k c v11 hk hF hck hv
    obtain ⟨F, rfl⟩ : ∃ G, F = G + 1 := ⟨F - 1, by omega⟩
    rw [f_L_isGroup_48, qy_q (v := 6) (j := 6) rfl (by omega), h6, if_pos (nI_le (by omega) (by omega))]
    rcases hv with ⟨_, q1, q2⟩ | ⟨_, q1⟩
    · rw [q1, q2]
      rfl
    · rw [q1]
  | succ d ih =>
    intro F k c v11 hk hF hck hv
    obtain ⟨F, rfl⟩ : ∃ G, F = G + 1 := ⟨F - 1, by omega⟩
    have ec : nI r - nI c - 1 = nI r - nI (c + 1) := by
      rw [← nI_1]
      grind
    have e0 : nI r - nI c - 0 = nI r - nI c := by grind
    have hsu : ∀ s : Nat, qz_at (fun i => X 135 i = nI (2 * g)) (d + 1) k s = if X 135 k = nI (2 * g) then (if s = 0 then nI k else qz_at (fun i => X 135 i = nI (2 * g)) d (k + 1) (s - 1)) else qz_at (fun i => X 135 i = nI (2 * g)) d (k + 1) s := fun s => rfl
    rw [f_L_isGroup_48, qy_q (v := 6) (j := 6) rfl (by omega), h6, if_neg (nI_ge (by omega) (by omega)), qy_r rfl (show k < 48 by omega), qy_2, qz_nm]
    by_cases hm : X 135 k = nI (2 * g)
    · rw [if_pos hm]
      by_cases hz : r = c
      · subst hz
        rw [if_pos ((qg_sub0 (by omega) (by omega)).mpr rfl), qy_r rfl (show k < 48 by omega), qz_nm, if_pos hm, qz_nm, qz_nm, nI_1, ec]
        refine ih F (k + 1) (r + 1) (nI k) (by omega) (by omega) (by omega) (Or.inr ⟨by omega, ?_⟩)
        rcases hv with ⟨_, _, q2⟩ | ⟨q0, _⟩
        · rw [q2, hsu, if_pos hm, if_pos (by omega)]
        · omega
      · rw [if_neg (fun q => hz ((qg_sub0 (by omega) (by omega)).mp q)), qy_r rfl (show k < 48 by omega), qz_nm, if_pos hm, qz_nm, qz_nm, nI_1, ec]
        refine ih F (k + 1) (c + 1) v11 (by omega) (by omega) (by omega) ?_
        rcases hv with ⟨q0, q1, q2⟩ | ⟨q0, q1⟩
        · refine Or.inl ⟨by omega, q1, ?_⟩
          rw [q2, hsu, if_pos hm, if_neg (by omega), show r - c - 1 = r - (c + 1) by omega]
        · exact Or.inr ⟨by omega, q1⟩
    · rw [if_neg hm, qy_r rfl (show k < 48 by omega), qz_nm, if_neg hm, qz_nm, qz_nm, nI_1, e0]
      refine ih F (k + 1) c v11 (by omega) (by omega) (by omega) ?_
      rcases hv with ⟨q0, q1, q2⟩ | ⟨q0, q1⟩
      · refine Or.inl ⟨q0, q1, ?_⟩
        rw [q2, hsu, if_neg hm]
      · exact Or.inr ⟨q0, q1⟩
theorem qg_isGroup (h : qz_R X (Y 1) n p f e t 0) (hL : qL X (Y 1) n p) (hN : 200 ≤ N) (hj : j < p) (hr : r < 2 ^ 20) : f_L_isGroup N (nI j) (nI r) X = some (1, X) := by
  have hL0 := hL
  obtain ⟨hn, hp, hq, ht, hc, hg⟩ := hL
  obtain ⟨q0, q1, q2, q3, q4, q5, q6, y6, q7, y7, q8, q9, _⟩ := hq
  obtain ⟨u, v, u1, v1, m1, m2, m3⟩ := qL_mem hc (g := j) (by omega) n (Nat.le_refl _)
  have er : nI (u + 1000 * v) - nI (u + 1000 * v) / 1000 * 1000 = nI u := by
    rw [show (1000 : Int32) = nI 1000 from rfl, pk_rem (by omega) (by omega) (by omega)]
    congr 1
    omega
  have ed : nI (u + 1000 * v) / 1000 = nI v := by
    rw [show (1000 : Int32) = nI 1000 from rfl, pk_div (by omega) (by omega) (by omega)]
    congr 1
    omega
  have hm : qz_at (fun i => X 135 i = nI (2 * j)) n 0 r = qz_at (fun i => qz_mb (Y 1) i (nI j)) n 0 r := qz_at_c n 0 r (fun i _ hi => qc_mb (hc i (by omega)) (by omega))
  have g7 := qg_7 (hg j hj)
  have c0 : f_X7_group N (nI j) 0 X = some (qy_g (Y 1) n j 0, X) := qy_group h hN (w := 0) hj (by omega)
  have c1 : f_X7_group N (nI j) 1 X = some (qy_g (Y 1) n j 1, X) := qy_group h hN (w := 1) hj (by omega)
  have c2 : f_X7_group N (nI j) 2 X = some (qy_g (Y 1) n j 2, X) := qy_group h hN (w := 2) hj (by omega)
  have c3 : f_X7_group N (nI j) 3 X = some (qy_g (Y 1) n j 3, X) := qy_group h hN (w := 3) hj (by omega)
  have c4 : f_X7_group N (nI j) 4 X = some (qy_g (Y 1) n j 4, X) := qy_group h hN (w := 4) hj (by omega)
  have c5 : f_X7_group N (nI j) 5 X = some (qy_g (Y 1) n j 5, X) := qy_group h hN (w := 5) hj (by omega)
  have c6 : f_X7_group N (nI j) 6 X = some (qy_g (Y 1) n j 6, X) := qy_group h hN (w := 6) hj (by omega)
  have cm := qy_member h hN hj (show r < 2 ^ 31 by omega)
  -- from the last group of tests backwards
  have s244 : ∀ w : Int32, f_L_isGroup_244 N (nI j) (nI r) (qz_at (fun i => qz_mb (Y 1) i (nI j)) n 0 r) w w X = some (1, X) := fun w => by
    unfold f_L_isGroup_244
    rw [if_pos rfl, cm, qz_bi, if_pos rfl]
  have s202 : ∀ w : Int32, f_L_isGroup_202 N (nI j) (nI r) (qz_at (fun i => qz_mb (Y 1) i (nI j)) n 0 r) w w X = some (1, X) := fun w => by
    unfold f_L_isGroup_202
    rw [if_pos rfl, c5, qz_bi, qy_r rfl (show j < 48 by omega), qz_nm, qg_3 (hg j hj)]
    show (if Y 1 (1216 + 4 * j + 2) = Y 1 (1216 + 4 * j + 2) then _ else _) = _
    rw [if_pos rfl, c6, qz_bi, qy_q (v := 9) (j := 9) rfl (by omega), q9]
    show (if Y 1 9 = nI j then (m_gd (m_in 10 17) <| m_nm (X 131 (Int32.toNatClampNeg 10)) fun y_85 => f_L_isGroup_244 N (nI j) (nI r) (qz_at (fun i => qz_mb (Y 1) i (nI j)) n 0 r) y_85 (if Y 1 (1216 + 4 * j + 0) = 3 then Y 1 (1216 + 4 * j + 3) else -5) X) else f_L_isGroup_244 N (nI j) (nI r) (qz_at (fun i => qz_mb (Y 1) i (nI j)) n 0 r) (-5) (if Y 1 (1216 + 4 * j + 0) = 3 then Y 1 (1216 + 4 * j + 3) else -5) X) = _
    by_cases h9 : Y 1 9 = nI j
    · rw [if_pos h9, if_pos ((qz_writ h hj).mp h9.symm), qy_q (v := 10) (j := 10) rfl (by omega), ht j hj h9]
      exact s244 _
    · rw [if_neg h9, if_neg (fun q => h9 ((qz_writ h hj).mpr q).symm)]
      exact s244 _
  have s109 : ∀ v10 : Int32, (v10 = if Y 1 (1216 + 4 * j + 0) = 1 then 1 else 0) → f_L_isGroup_109 N (nI j) (nI r) (nI (u + 1000 * v)) (qz_at (fun i => qz_mb (Y 1) i (nI j)) n 0 0) v10 (qz_at (fun i => qz_mb (Y 1) i (nI j)) n 0 r) X = some (1, X) := fun v10 hv10 => by
    unfold f_L_isGroup_109
    rw [c0, qz_bi, qy_r rfl (show j < 48 by omega), qz_nm, g7]
    show (if Y 1 (1216 + 4 * j + 0) = Y 1 (1216 + 4 * j + 0) then _ else _) = _
    rw [if_pos rfl, c1, qz_bi, qz_nm, er]
    show (if qz_mem (Y 1) n (nI j) = nI u then _ else _) = _
    rw [if_pos m1, c2, qz_bi, qz_nm, ed]
    show (if qz_rec (Y 1) n (nI j) = nI v then _ else _) = _
    rw [if_pos m2, c3, qz_bi]
    unfold f_L_isGroup_179
    by_cases hga : Y 1 (1216 + 4 * j + 0) = 1
    · rw [if_pos hga] at hv10
      obtain ⟨k, k1, k2, k3⟩ := qzR_gi h (by decide) (by rw [← (qz_gath h hj).mpr hga]; exact qz_n5 (by omega))
      rw [← (qz_gath h hj).mpr hga] at k2
      rcases qz_at_0 (P := fun i => qz_mb (Y 1) i (nI j)) n 0 with ⟨w1, w2⟩ | ⟨i, w1, w2, w3, w4, w5⟩
      · exact absurd ⟨k2, k3⟩ (w2 k (Nat.zero_le _) (by omega))
      · have e3 : qy_g (Y 1) n j 3 = Y 1 (16 + 8 * i + 0) := by
          show (if Y 1 (1216 + 4 * j + 0) = 1 then Y 1 (16 + 8 * (qz_at (fun i => qz_mb (Y 1) i (nI j)) n 0 0).toNatClampNeg + 0) else -5) = _
          rw [if_pos hga, w4, nI_clamp (by omega)]
        have e4 : qy_g (Y 1) n j 4 = Y 1 (1216 + 4 * j + 1) := if_pos hga
        have e5 : X 137 j = Y 1 (1216 + 4 * j + 1) := by
          obtain ⟨s, rr, s1, s2, s3, e0, e2, ea, eb⟩ := hg j hj
          have es : s = 1 := by
            rw [hga] at e0
            exact ((nI_eq (a := 1) (by omega) (by omega)).mp e0).symm
          exact (eb es).2
        rw [hv10, if_neg qz_10, e3, w4, qy_r rfl (show i < 48 by omega), qz_nm, qc_cl (hc i (by omega)), if_pos rfl, c4, qz_bi, if_neg qz_10, qy_r rfl (show j < 48 by omega), e4, e5]
        exact s202 _
    · rw [if_neg hga] at hv10
      have e3 : qy_g (Y 1) n j 3 = -5 := if_neg hga
      have e4 : qy_g (Y 1) n j 4 = -5 := if_neg hga
      rw [hv10, if_pos rfl, e3, if_pos rfl, c4, qz_bi, if_pos rfl, e4]
      exact s202 _
  have s36 : ∀ v10 : Int32, (v10 = if Y 1 (1216 + 4 * j + 0) = 1 then 1 else 0) → f_L_isGroup_36 N (nI j) (nI r) (nI (u + 1000 * v)) (qz_at (fun i => qz_mb (Y 1) i (nI j)) n 0 0) v10 X = some (1, X) := fun v10 hv10 => by
    unfold f_L_isGroup_36
    have q := qg_48 (N := N) (v2 := nI r) (v8 := nI (u + 1000 * v)) (v9 := qz_at (fun i => qz_mb (Y 1) i (nI j)) n 0 0) (v10 := v10) (g := j) (r := r) q6 (by omega) hr n N 0 0 (-5) (by omega) (by omega) (Nat.le_refl _) (Or.inl ⟨by omega, rfl, rfl⟩)
    have e0 : nI r - nI 0 = nI r := by rw [pk_sub (by omega)]; rfl
    rw [e0, nI_0] at q
    rw [q, hm]
    exact s109 v10 hv10
  unfold f_L_isGroup
  rw [qy_members q6 (by omega) hN, qz_bi, m3, qy_first q6 (by omega) hN, qL_first hc (by omega), qz_bi, qy_r rfl (show j < 48 by omega), qz_nm, g7]
  by_cases hga : Y 1 (1216 + 4 * j + 0) = 1
  · rw [if_pos hga]
    exact s36 1 (by rw [if_pos hga])
  · rw [if_neg hga]
    exact s36 0 (by rw [if_neg hga])
end QG1
