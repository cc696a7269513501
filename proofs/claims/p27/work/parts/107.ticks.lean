-- ticks: the law's ticks beside the model's tickOnce
section QL7
variable {N n p g k j j0 c w f e t : Nat} {X X2 Z Xc : XT} {y y2 : Nat → Int32}
/-- behind the answers of a tick: a group that is late closes, a write begins -/
theorem qL_late (r : Int32) (hL : qL X y n p) (h9 : y 9 = -5 ∨ ∃ j : Nat, j < p ∧ y 9 = nI j) (h8 : y 8 = -5 ∨ ∃ j : Nat, j < p ∧ y 8 = nI j ∧ y (1216 + 4 * j + 0) = 1) (h1 : ∃ w : Nat, w ≤ 20 ∧ y 1 = nI w) (h2 : ∃ a : Nat, a ≤ 20 ∧ y 2 = nI a) (hN : 200 ≤ N) : ∃ (X2 : XT) (y2 : Nat → Int32), f_X8_tickOnce_103 N r (m_up Z 1 y) = some (r, m_up Z 1 y2) ∧ (∀ (k0 : Int32 → Int32 → Int32 → XT → Option (Int32 × XT)) (v0 v8 v9 : Int32), f_L_ticks_182 N k0 v0 v8 v9 X = k0 v0 v8 (v9 + 1) X2) ∧ qlo X X2 ∧ qL X2 y2 n p := by
  have hL0 := hL
  obtain ⟨hn, hp, hq, ht, hc, hg⟩ := hL
  obtain ⟨q0, q1, q2, q3, q4, q5, q6, y6, q7, y7, q8, q9, _⟩ := hq
  have go : ∀ (X1 : XT) (y1 : Nat → Int32), qlo X X1 → qL X1 y1 n p → (y1 9 = -5 ∨ ∃ j : Nat, j < p ∧ y1 9 = nI j) → ∃ (X2 : XT) (y2 : Nat → Int32), f_X8_goOn N (m_up Z 1 y1) = some (m_up Z 1 y2) ∧ (∀ (k0 : Int32 → Int32 → Int32 → XT → Option (Int32 × XT)) (v0 v8 v9 : Int32), f_L_ticks_212 N k0 v0 v8 v9 X1 = k0 v0 v8 (v9 + 1) X2) ∧ qlo X X2 ∧ qL X2 y2 n p := by
    intro X1 y1 z1 z2 z3
    obtain ⟨X2, y2, a1, a2, a3, a4, _⟩ := qL_writes (Z := Z) z2 z3 hN
    refine ⟨X2, y2, a1, fun k0 v0 v8 v9 => ?_, qlo_tr z1 a3, a4⟩
    unfold f_L_ticks_212
    rw [a2, qz_bv, qz_nm]
  unfold f_X8_tickOnce_103 f_X8_isLate
  rw [qz_rd (v := 8) (w := 8) rfl (by omega)]
  rcases h8 with h8 | ⟨j0, hj, h8, hst⟩
  · obtain ⟨X2, y2, b1, b2, b3, b4⟩ := go X y qlo_rf hL0 h9
    refine ⟨X2, y2, ?_, fun k0 v0 v8 v9 => ?_, b3, b4⟩
    · rw [if_pos h8, qz_bi, if_pos rfl, b1, qz_bv]
    · unfold f_L_ticks_182
      rw [qy_q (v := 8) (j := 8) rfl (by omega), q8, h8, if_pos (show (-5 : Int32) < 0 by decide)]
      exact b2 k0 v0 v8 v9
  · obtain ⟨s, rr, s1, s2, s3, e0, e2, ea, eb⟩ := hg j0 hj
    have es : s = 1 := by
      rw [hst] at e0
      exact ((nI_eq (a := 1) (by omega) (by omega)).mp e0).symm
    have he : X 137 j0 = y (1216 + 4 * j0 + 1) := (eb es).2
    rw [if_neg (show ¬ y 8 = -5 by rw [h8]; exact qz_n5 (by omega)), qz_rd (v := 8) (w := 8) rfl (by omega), h8, qz_ofG (v := 1) (w := 1) rfl (by omega) (by omega), qz_bi (y (1216 + 4 * j0 + 1)), qz_rd (v := 0) (w := 0) rfl (by omega)]
    by_cases hlt : y 0 < y (1216 + 4 * j0 + 1)
    · obtain ⟨X2, y2, b1, b2, b3, b4⟩ := go X y qlo_rf hL0 h9
      refine ⟨X2, y2, ?_, fun k0 v0 v8 v9 => ?_, b3, b4⟩
      · rw [if_pos hlt, qz_bi, if_pos rfl, b1, qz_bv]
      · unfold f_L_ticks_182
        rw [qy_q (v := 8) (j := 8) rfl (by omega), q8, h8, if_neg (nI_pos (by omega)), qy_q (v := 8) (j := 8) rfl (by omega), q8, h8, qy_r rfl (show j0 < 48 by omega), he, qy_q (v := 0) (j := 0) rfl (by omega), q0, if_pos hlt]
        exact b2 k0 v0 v8 v9
    · obtain ⟨X1, y1, c1, c2, c3, c4, c5⟩ := qL_closes (Z := Z) (r := 3) hL0 h9 h8 hj h1 h2 (by omega) hN
      obtain ⟨X2, y2, b1, b2, b3, b4⟩ := go X1 y1 c3 c4 c5
      have c1' : f_X8_close N 3 (m_up Z 1 y) = some (m_up Z 1 y1) := c1
      have c2' : f_L_closes N 3 X = some X1 := c2
      refine ⟨X2, y2, ?_, fun k0 v0 v8 v9 => ?_, b3, b4⟩
      · rw [if_neg hlt, qz_bi, if_neg qz_10, c1', qz_bv, b1, qz_bv]
      · unfold f_L_ticks_182
        rw [qy_q (v := 8) (j := 8) rfl (by omega), q8, h8, if_neg (nI_pos (by omega)), qy_q (v := 8) (j := 8) rfl (by omega), q8, h8, qy_r rfl (show j0 < 48 by omega), he, qy_q (v := 0) (j := 0) rfl (by omega), q0, if_neg hlt, c2', qz_bv]
        exact b2 k0 v0 v8 v9
-- one answer
def qa_X (X : XT) (k : Nat) : XT := m_up (m_up (m_up (m_up X 132 (upd (X 132) k (ql_bec (X 132 k) 4))) 134 (upd (X 134) k (X 131 0))) 131 (upd (X 131) 16 (X 131 16 + (X 131 0 - X 133 k)))) 131 (upd (upd (X 131) 16 (X 131 16 + (X 131 0 - X 133 k))) 11 (X 131 11 + 1))
def qa_Y (y : Nat → Int32) (k : Nat) : Nat → Int32 := upd (upd (upd (upd y (16 + 8 * k + 3) 4) (16 + 8 * k + 5) (y 0)) 15 (y 15 + (y 0 - y (16 + 8 * k + 4)))) 10 (y 10 + 1)
theorem qa_L (hL : qL X y n p) (hk : k < n) : qL (qa_X X k) (qa_Y y k) n p := by
  obtain ⟨hn, hp, hq, ht, hc, hg⟩ := hL
  have r131 : qa_X X k 131 = upd (upd (X 131) 16 (X 131 16 + (X 131 0 - X 133 k))) 11 (X 131 11 + 1) := by
    unfold qa_X
    rw [qz_up]
  have r132 : qa_X X k 132 = upd (X 132) k (ql_bec (X 132 k) 4) := by
    unfold qa_X
    rw [qz_un _ _ (by decide), qz_un _ _ (by decide), qz_un _ _ (by decide), qz_up]
  have r134 : qa_X X k 134 = upd (X 134) k (X 131 0) := by
    unfold qa_X
    rw [qz_un _ _ (by decide), qz_un _ _ (by decide), qz_up]
  have ro : ∀ i : Nat, i ≠ 131 → i ≠ 132 → i ≠ 134 → qa_X X k i = X i := fun i h1 h2 h3 => by
    unfold qa_X
    rw [qz_un _ _ h1, qz_un _ _ h1, qz_un _ _ h3, qz_un _ _ h2]
  have yo : ∀ a : Nat, a ≠ 10 → a ≠ 15 → a ≠ 16 + 8 * k + 3 → a ≠ 16 + 8 * k + 5 → qa_Y y k a = y a := fun a h1 h2 h3 h4 => by
    unfold qa_Y
    rw [qz_uo h1, qz_uo h2, qz_uo h4, qz_uo h3]
  have yl : ∀ a : Nat, a < 16 → a ≠ 10 → a ≠ 15 → qa_Y y k a = y a := fun a h1 h2 h3 => yo a h2 h3 (by omega) (by omega)
  have y10 : qa_Y y k 10 = y 10 + 1 := qz_us
  have y15 : qa_Y y k 15 = y 15 + (y 0 - y (16 + 8 * k + 4)) := by
    unfold qa_Y
    rw [qz_uo (by omega), qz_us]
  have hi : X 133 k = y (16 + 8 * k + 4) := by
    obtain ⟨cl, rc, u, w, gr, me, h1, h2, h3, h4, h5, h6, e0, e1, e2, e3, e6, e7, ea, eb, ec, ed⟩ := hc k hk
    exact eb
  have hq0 : X 131 0 = y 0 := hq.1
  refine ⟨hn, hp, ?_, ?_, fun i hi2 => ?_, fun j hj2 => ?_⟩
  · rw [r131]
    obtain ⟨q0, q1, q2, q3, q4, q5, q6, y6, q7, y7, q8, q9, q11, q12, q13, q14, q15, q16, q17, q18⟩ := hq
    unfold qL_q
    simp only [upd, yl, y10, y15, Nat.reduceEqDiff, if_false, if_true, Nat.reduceLT, ne_eq, not_false_eq_true]
    exact ⟨q0, q1, q2, q3, q4, q5, q6, y6, q7, y7, q8, q9, by rw [q11], q12, q13, q14, q15, by rw [q16, hq0, hi], q17, q18⟩
  · rw [r131]
    intro j h1 h2
    rw [yl 9 (by omega) (by omega) (by omega)] at h2
    rw [qz_uo (by omega), qz_uo (by omega), yo _ (by omega) (by omega) (by omega) (by omega)]
    exact ht j h1 h2
  · rw [r132, r134, ro 133 (by decide) (by decide) (by decide), ro 135 (by decide) (by decide) (by decide)]
    by_cases e : i = k
    · subst e
      rw [qz_us, qz_us]
      have hb := qc_bec (y2 := upd y (16 + 8 * i + 3) (nI 4)) (v := 4) (by omega) (by rw [qz_us]) (fun w h1 h2 => qz_uo (by omega)) (hc i hi2)
      obtain ⟨cl, rc, u, w2, gr, me, h1, h2, h3, h4, h5, h6, e0, e1, e2, e3, e6, e7, ea, eb, ec, ed⟩ := hb
      have z : ∀ a : Nat, a ≠ 10 → a ≠ 15 → a ≠ 16 + 8 * i + 5 → qa_Y y i a = upd y (16 + 8 * i + 3) (nI 4) a := fun a g1 g2 g3 => by
        unfold qa_Y
        rw [qz_uo g1, qz_uo g2, qz_uo g3]
        rfl
      refine ⟨cl, rc, u, w2, gr, me, h1, h2, h3, h4, h5, h6, ?_, ?_, ?_, ?_, ?_, ?_, ea, ?_, ?_, ed⟩
      · rw [z _ (by omega) (by omega) (by omega)]; exact e0
      · rw [z _ (by omega) (by omega) (by omega)]; exact e1
      · rw [z _ (by omega) (by omega) (by omega)]; exact e2
      · rw [z _ (by omega) (by omega) (by omega)]; exact e3
      · rw [z _ (by omega) (by omega) (by omega)]; exact e6
      · rw [z _ (by omega) (by omega) (by omega)]; exact e7
      · rw [z _ (by omega) (by omega) (by omega)]; exact eb
      · unfold qa_Y
        rw [qz_uo (by omega), qz_uo (by omega), qz_us, hq0]
    · rw [qz_uo e, qz_uo e]
      exact qc_c (fun w hw => yo _ (by omega) (by omega) (by omega) (by omega)) (hc i hi2)
  · rw [ro 136 (by decide) (by decide) (by decide), ro 137 (by decide) (by decide) (by decide)]
    exact qg_c (fun w hw => yo _ (by omega) (by omega) (by omega) (by omega)) (hg j hj2)
/-- the model's row when the first m commits are answered -/
def qa_R (y : Nat → Int32) (g : Int32) (m : Nat) : Nat → Int32 := upd (qz_an g y m) 10 (y 10 + qz_sum (fun i => if qz_C y g i then 1 else 0) m)
theorem qa_R_s {g : Int32} (m : Nat) : qa_R y g (m + 1) = if qz_C y g m then qa_Y (qa_R y g m) m else qa_R y g m := by
  have hs := qz_an_s (g := g) (y := y) m
  have h1 : qz_sum (fun i => if qz_C y g i then 1 else 0) (m + 1) = qz_sum (fun i => if qz_C y g i then 1 else 0) m + (if qz_C y g m then 1 else 0) := rfl
  have z0 : qa_R y g m 0 = y 0 := by
    unfold qa_R
    rw [qz_uo (by omega), qz_an_o (by omega)]
  have z4 : qa_R y g m (16 + 8 * m + 4) = y (16 + 8 * m + 4) := by
    unfold qa_R
    rw [qz_uo (by omega), qz_an_o (by omega)]
  have z15 : qa_R y g m 15 = qz_an g y m 15 := qz_uo (by omega)
  have z10 : qa_R y g m 10 = y 10 + qz_sum (fun i => if qz_C y g i then 1 else 0) m := qz_us
  by_cases hC : qz_C y g m
  · rw [if_pos hC] at hs h1 ⊢
    funext i
    unfold qa_Y
    rw [z0, z4, z15, z10]
    unfold qa_R
    rw [hs, h1]
    by_cases i10 : i = 10
    · subst i10
      rw [qz_us, qz_us, Int32.add_assoc]
    · rw [qz_uo i10, qz_uo i10]
      by_cases i15 : i = 15
      · subst i15
        rw [qz_us, qz_us]
      · rw [qz_uo i15, qz_uo i15]
        by_cases i5 : i = 16 + 8 * m + 5
        · rw [i5, qz_us, qz_us]
        · rw [qz_uo i5, qz_uo i5]
          by_cases i3 : i = 16 + 8 * m + 3
          · rw [i3, qz_us, qz_us]
          · rw [qz_uo i3, qz_uo i3, qz_uo i10]
  · rw [if_neg hC] at hs h1 ⊢
    unfold qa_R
    rw [hs, h1, Int32.add_zero]
theorem qa_R0 {g : Int32} : qa_R y g 0 = y := by
  funext i
  unfold qa_R
  by_cases i10 : i = 10
  · subst i10
    rw [qz_us]
    exact Int32.add_zero _
  · rw [qz_uo i10]
    rfl
theorem qa_hit {g : Nat} {m : Nat} (hk : m < n) (hg : g < 48) (hL : qL X (qa_R y (nI g) m) n p) : (X 135 m = nI (2 * g) ∧ X 132 m >>> ((9 : Int32) &&& 31) = 3) ↔ qz_C y (nI g) m := by
  obtain ⟨hn, hp, hq, ht, hc, hgg⟩ := hL
  have z : ∀ a : Nat, 16 + 8 * m ≤ a → qa_R y (nI g) m a = y a := fun a ha => by
    unfold qa_R
    rw [qz_uo (by omega), qz_an_g m ha]
  have h1 := qc_mb (hc m hk) hg
  have h2 := qc_what (hc m hk)
  unfold qz_mb at h1
  rw [z _ (by omega), z _ (by omega)] at h1
  rw [z _ (by omega)] at h2
  rw [h1, h2]
theorem qa_loop {g : Nat} (hg : g < 48) (hN : 200 ≤ N) : ∀ (d m : Nat) (X : XT), m + d = n → qL X (qa_R y (nI g) m) n p → ∃ X2 : XT, (∀ (k0 : Int32 → Int32 → Int32 → XT → Option (Int32 × XT)) (v0 v8 v9 : Int32) (fuel : Nat), d < fuel → f_L_ticks_104 N k0 fuel v0 (v8 + qz_sum (fun i => if qz_C y (nI g) i then 1 else 0) m) v9 (nI g) (nI m) X = f_L_ticks_182 N k0 v0 (v8 + qz_sum (fun i => if qz_C y (nI g) i then 1 else 0) n) v9 X2) ∧ qlo X X2 ∧ qL X2 (qa_R y (nI g) n) n p := by
  intro d
  induction d with
  | zero =>
    intro m X hm hL
    have e : m = n := by omega
    subst e
    have hn := hL.1
    refine ⟨X, fun k0 v0 v8 v9 fuel hF => ?_, qlo_rf, hL⟩
    obtain ⟨F, rfl⟩ : ∃ F, fuel = F + 1 := ⟨fuel - 1, by omega⟩
    rw [f_L_ticks_104, qy_q (v := 6) (j := 6) rfl (by omega), hL.2.2.1.2.2.2.2.2.2.1, if_pos (nI_le (Nat.le_refl _) (by omega))]
  | succ d ih =>
    intro m X hm hL
    have hn := hL.1
    have hit := qa_hit (y := y) (m := m) (by omega) hg hL
    have hs := qa_R_s (y := y) (g := nI g) m
    have h1 : qz_sum (fun i => if qz_C y (nI g) i then 1 else 0) (m + 1) = qz_sum (fun i => if qz_C y (nI g) i then 1 else 0) m + (if qz_C y (nI g) m then 1 else 0) := rfl
    have h6 := hL.2.2.1.2.2.2.2.2.2.1
    by_cases hC : qz_C y (nI g) m
    · obtain ⟨c1, c2⟩ := hit.mpr hC
      rw [if_pos hC] at hs h1
      have hx := qa_L (k := m) hL (by omega)
      rw [← hs] at hx
      obtain ⟨X2, z1, z2, z3⟩ := ih (m + 1) (qa_X X m) (by omega) hx
      refine ⟨X2, fun k0 v0 v8 v9 fuel hF => ?_, qlo_tr (qlo_tr (qlo_tr (qlo_tr (qlo_up (by omega)) (qlo_up (by omega))) (qlo_up (by omega))) (qlo_up (by omega))) z2, z3⟩
      obtain ⟨F, rfl⟩ : ∃ F, fuel = F + 1 := ⟨fuel - 1, by omega⟩
      have z1' := z1 k0 v0 v8 v9 F (by omega)
      rw [f_L_ticks_104, qy_q (v := 6) (j := 6) rfl (by omega), h6, if_neg (nI_ge (by omega) (by omega)), qy_r rfl (show m < 48 by omega), qy_2, qz_nm, if_pos c1, qy_whatF (by omega), c2, qz_bi, if_pos rfl, qy_becF (by omega), qz_bv, qy_q (v := 0) (j := 0) rfl (by omega), qy_rw rfl (show m < 48 by omega), qy_q (v := 16) (j := 16) rfl (by omega), qy_q (v := 0) (j := 0) rfl (by omega), qy_r rfl (show m < 48 by omega), qz_nm, qz_nm, qy_qw (v := 16) (j := 16) rfl (by omega), qy_q (v := 11) (j := 11) rfl (by omega), qz_nm, qy_qw (v := 11) (j := 11) rfl (by omega), qz_nm, qz_nm, nI_1]
      rw [h1, ← Int32.add_assoc] at z1'
      rw [← z1']
      rfl
    · rw [if_neg hC] at hs h1
      rw [Int32.add_zero] at h1
      have hL2 := hL
      rw [← hs] at hL2
      obtain ⟨X2, z1, z2, z3⟩ := ih (m + 1) X (by omega) hL2
      refine ⟨X2, fun k0 v0 v8 v9 fuel hF => ?_, z2, z3⟩
      obtain ⟨F, rfl⟩ : ∃ F, fuel = F + 1 := ⟨fuel - 1, by omega⟩
      have z1' := z1 k0 v0 v8 v9 F (by omega)
      rw [h1] at z1'
      rw [f_L_ticks_104, qy_q (v := 6) (j := 6) rfl (by omega), h6, if_neg (nI_ge (by omega) (by omega)), qy_r rfl (show m < 48 by omega), qy_2, qz_nm]
      by_cases c1 : X 135 m = nI (2 * g)
      · have c2 : ¬ X 132 m >>> ((9 : Int32) &&& 31) = 3 := fun q => hC (hit.mp ⟨c1, q⟩)
        rw [if_pos c1, qy_whatF (by omega), qz_bi, if_neg c2, qz_nm, nI_1]
        exact z1'
      · rw [if_neg c1, qz_nm, nI_1]
        exact z1'
end QL7
