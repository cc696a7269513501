-- one tick, joined
section QT2
variable {X Z : XT} {y : Nat → Int32} {N n p f e t b j0 : Nat}
def qz_tailed (X X2 : XT) (y y2 : Nat → Int32) (p f f2 e e2 t n b : Nat) : Prop :=
  (e2 = e ∧ (y 8 = -5 ∨ ∃ E : Nat, E < 2 ^ 30 ∧ X 0 9 = nI E ∧ t < E) ∧ qz_started X X2 y y2 p f f2 e) ∨
  (∃ (j0 E : Nat) (X1 : XT) (y1 : Nat → Int32), e2 = e + 1 ∧ j0 < p ∧ y 8 = nI j0 ∧ E < 2 ^ 30 ∧ X 0 9 = nI E ∧ E ≤ t ∧ qz_closed X X1 y y1 j0 e ∧ qz_R X1 y1 n p f (e + 1) t b ∧ qz_started X1 X2 y1 y2 p f f2 (e + 1))
theorem qz_goOn_idle (h : qz_R X y n p f e t b) (hq : y 9 = -5 → f = e) (hN : 200 ≤ N) : f_X8_goOn N (m_up Z 1 y) = some (m_up Z 1 y) := by
  obtain ⟨X2, y2, f2, h1, h2, h3, h4, h5, h6⟩ := qz_startWriting (Z := Z) h hN
  rcases h6 with ⟨_, q, _⟩ | ⟨q1, q2, _⟩
  · rw [h2, q]
  · have := hq q1
    omega
theorem qz_tail (v : Int32) (h : qz_R X y n p f e t b) (ht : t < 2 ^ 29) (hN : 200 ≤ N) : ∃ (X2 : XT) (y2 : Nat → Int32) (f2 e2 : Nat), f_X3_passTick_43 N v X = some (v, X2) ∧ f_X8_tickOnce_103 N v (m_up Z 1 y) = some (v, m_up Z 1 y2) ∧ qz_R X2 y2 n p f2 e2 t b ∧ qz_fr X X2 ∧ (y2 9 = -5 → f2 = e2) ∧ qz_tailed X X2 y y2 p f f2 e e2 t n b := by
  have hp0 := (qzR_pn h).1
  unfold f_X3_passTick_43 f_X8_tickOnce_103 f_X8_isLate
  rw [qz_rd (v := 8) (w := 8) rfl (by omega), qzR_gx h]
  rcases qzR_ga h with h8 | ⟨j, g1, g2, g3, g4, E, g5, g6⟩
  · obtain ⟨X2, y2, f2, h1, h2, h3, h4, h5, h6⟩ := qz_startWriting (Z := Z) h hN
    refine ⟨X2, y2, f2, e, ?_, ?_, h3, h4, h5, Or.inl ⟨rfl, Or.inl h8, h6⟩⟩
    · rw [if_pos h8, h1, qz_bv]
    · rw [if_pos h8, qz_bi, if_pos rfl, h2, qz_bv]
  · have h8 : ¬ y 8 = -5 := by rw [g2]; exact qz_n5 (by omega)
    rw [if_neg h8, if_neg h8, qz_rd (v := 8) (w := 8) rfl (by omega), g2, qz_ofG (v := 1) (w := 1) rfl (by omega) (by omega), qz_bi, qz_rd (v := 0) (w := 0) rfl (by omega), g4, qzR_tx h, qzR_ty h, g6]
    by_cases hlt : t < E
    · obtain ⟨X2, y2, f2, h1, h2, h3, h4, h5, h6⟩ := qz_startWriting (Z := Z) h hN
      refine ⟨X2, y2, f2, e, ?_, ?_, h3, h4, h5, Or.inl ⟨rfl, Or.inr ⟨E, by omega, g4.trans g6, hlt⟩, h6⟩⟩
      · rw [if_pos (nI_lt hlt (by omega)), h1, qz_bv]
      · rw [if_pos (nI_lt hlt (by omega)), qz_bi, if_pos rfl, h2, qz_bv]
    · obtain ⟨X1, y1, c1, c2, c3, c4, c5⟩ := qz_close (Z := Z) (r := 3) h hN g2 (by omega)
      obtain ⟨X2, y2, f2, h1, h2, h3, h4, h5, h6⟩ := qz_startWriting (Z := Z) c3 hN
      refine ⟨X2, y2, f2, e + 1, ?_, ?_, h3, qz_fr_tr c4 h4, h5, Or.inr ⟨j, E, X1, y1, rfl, by omega, g2, by omega, g4.trans g6, by omega, c5, c3, h6⟩⟩
      · rw [if_neg (nI_nlt (by omega) (by omega)), c1, qz_bv, h1, qz_bv]
      · rw [if_neg (nI_nlt (by omega) (by omega)), qz_bi, if_neg (by decide), c2, h2, qz_bv, qz_goOn_idle h3 h5 hN, qz_bv]
def qz_clocked (X XA : XT) (y yA : Nat → Int32) : Prop :=
  (y 9 = -5 ∧ yA 9 = -5 ∧ (∀ s : Nat, s ≠ 6 → XA 0 s = X 0 s) ∧ (∀ i : Nat, i < 21 → i ≠ 0 → XA i = X i)) ∨
  (∃ j0 L : Nat, j0 < 150 ∧ y 9 = nI j0 ∧ X 0 11 = nI L ∧ 2 ≤ L ∧ L ≤ 400 ∧ yA 9 = nI j0 ∧ XA 0 11 = nI (L - 1) ∧ (∀ s : Nat, s ≠ 6 → s ≠ 11 → XA 0 s = X 0 s) ∧ (∀ i : Nat, i < 21 → i ≠ 0 → XA i = X i)) ∨
  (∃ j0 : Nat, j0 < 150 ∧ y 9 = nI j0 ∧ X 0 11 = nI 1 ∧ yA 9 = -5 ∧ XA 0 10 = -5 ∧ (∀ s : Nat, s ≠ 6 → s ≠ 10 → s ≠ 11 → XA 0 s = X 0 s) ∧ (∀ i : Nat, i < 21 → i ≠ 0 → i ≠ 5 → i ≠ 7 → i ≠ 11 → i ≠ 19 → i ≠ 20 → XA i = X i) ∧ (∀ c : Nat, c < 12 → XA 20 c = if qz_hit X (nI j0) c then -5 else X 20 c))
set_option maxHeartbeats 4000000 in
theorem qz_tick (h : qz_R X y n p f e t 0) (ht : t + 1 < 2 ^ 29) (hN : 200 ≤ N) : ∃ (r : Int32) (X2 : XT) (y2 : Nat → Int32) (f2 e2 : Nat), f_X3_passTick N X = some (r, X2) ∧ f_X8_tickOnce N (m_up Z 1 y) = some (r, m_up Z 1 y2) ∧ qz_R X2 y2 n p f2 e2 (t + 1) 0 ∧ qz_fr X X2 ∧ (y2 9 = -5 → f2 = e2) ∧ ∃ (XA : XT) (yA : Nat → Int32), qz_R XA yA n p f e (t + 1) 0 ∧ qz_clocked X XA y yA ∧ yA 8 = y 8 ∧ XA 0 6 = nI (t + 1) ∧ qz_tailed XA X2 yA y2 p f f2 e e2 (t + 1) n 0 := by
  have hp0 := (qzR_pn h).1
  have hn0 := qzR_nn h
  unfold f_X3_passTick f_X8_tickOnce
  rw [qz_nm, qz_nm, qz_up, qz_rd (v := 0) (w := 0) rfl (by omega), qz_nm (y 0 + 1), qz_wr (v := 0) (w := 0) rfl (by omega), qz_rd (v := 9) (w := 9) rfl (by omega), qz_uo (show (9 : Nat) ≠ 0 by decide), qz_uo (show (10 : Nat) ≠ 6 by decide), qzR_vx h, qzR_tx h, qzR_ty h, nI_1]
  rcases qzR_wa h with h9 | ⟨j, w1, w2, w3, w4, L, w5, w6, w7⟩
  · -- nothing is written
    have hR : qz_R (m_up X 0 (upd (X 0) 6 (nI (t + 1)))) (upd y 0 (nI (t + 1))) n p f e (t + 1) 0 := by
      refine qzo_clock (b2 := 0) h ?_ ?_ ?_ ?_ ?_ ?_ ?_ ?_ (by omega) (by omega)
      · intro i _ i0
        rw [qz_un _ _ i0]
      · intro s s1 s2
        rw [qz_up, qz_uo s1]
      · intro a a1 a2
        exact qz_uo a2
      · intro k w k1 k2
        exact qz_uo (by omega)
      · intro k w k1 k2 k3
        exact qz_uo (by omega)
      · rw [qz_up, qz_us]
      · exact qz_us
      · exact Or.inl ((qz_uo (by decide)).trans h9)
    obtain ⟨X2, y2, f2, e2, t1, t2, t3, t4, t5, t6⟩ := qz_tail (Z := Z) 0 hR ht hN
    refine ⟨0, X2, y2, f2, e2, ?_, ?_, t3, qz_fr_tr (qz_fr_up (by omega)) t4, t5, _, _, hR, Or.inl ⟨h9, (qz_uo (by decide)).trans h9, fun s s1 => ?_, fun i _ i0 => ?_⟩, qz_uo (by decide), ?_, t6⟩
    · rw [if_pos h9, t1]
    · rw [if_pos h9]
      unfold f_X8_tickOnce_40
      rw [if_pos h9, t2]
    · rw [qz_up, qz_uo s1]
    · rw [qz_un _ _ i0]
    · rw [qz_up, qz_us]
  · -- a group is written
    have h9 : ¬ y 9 = -5 := by rw [w2]; exact qz_n5 (by omega)
    have hL1 : 1 ≤ L := w5 (by decide)
    have hLp : nI L - 1 = nI (L - 1) := by
      have q := nI_pred (L - 1)
      rwa [show L - 1 + 1 = L by omega] at q
    have eX11 : X 0 11 = nI L := w4.trans w7
    have hR : qz_R (m_up X 0 (upd (upd (X 0) 6 (nI (t + 1))) 11 (nI (L - 1)))) (upd (upd y 0 (nI (t + 1))) (1216 + 4 * j + 3) (nI (L - 1))) n p f e (t + 1) (if L = 1 then 2 else 0) := by
      refine qzo_clock (b2 := if L = 1 then 2 else 0) h ?_ ?_ ?_ ?_ ?_ ?_ ?_ ?_ (by omega) (by split <;> omega)
      · intro i _ i0
        rw [qz_un _ _ i0]
      · intro s s1 s2
        rw [qz_up, qz_uo s2, qz_uo s1]
      · intro a a1 a2
        rw [qz_uo (by omega), qz_uo a2]
      · intro k w k1 k2
        rw [qz_uo (by omega), qz_uo (by omega)]
      · intro k w k1 k2 k3
        rw [qz_uo (by omega), qz_uo (by omega)]
      · rw [qz_up, qz_uo (by decide), qz_us]
      · rw [qz_uo (by omega), qz_us]
      · refine Or.inr ⟨j, w1, ?_, ?_, ?_, L - 1, ?_, by omega, qz_us⟩
        · rw [qz_uo (by omega), qz_uo (by omega)]; exact w2
        · rw [qz_uo (by omega), qz_uo (by omega)]; exact w3
        · rw [qz_up, qz_us, qz_us]
        · intro q
          by_cases e1 : L = 1
          · rw [if_pos e1] at q; exact absurd rfl q
          · omega
    have hfr0 : qz_fr X (m_up X 0 (upd (upd (X 0) 6 (nI (t + 1))) 11 (nI (L - 1)))) := qz_fr_up (by omega)
    rw [if_neg h9, if_neg h9, qz_nm, qz_uo (show (11 : Nat) ≠ 6 by decide), qz_uu, qz_nm, qz_up, qz_us, w2, qz_ofG (v := 3) (w := 3) rfl (by omega) (by omega), qz_bi, qz_nm, qz_setG (v := 3) (w := 3) rfl (by omega) (by omega), qz_bv, qz_uo (show 1216 + 4 * j + 3 ≠ 0 by omega), w7, eX11, hLp]
    have a0 : m_up X 0 (upd (upd (X 0) 6 (nI (t + 1))) 11 (nI (L - 1))) 0 = upd (upd (X 0) 6 (nI (t + 1))) 11 (nI (L - 1)) := qz_up _ _ _
    have aO : ∀ i : Nat, i ≠ 0 → m_up X 0 (upd (upd (X 0) 6 (nI (t + 1))) 11 (nI (L - 1))) i = X i := fun i i0 => qz_un _ _ i0
    have b8 : upd (upd y 0 (nI (t + 1))) (1216 + 4 * j + 3) (nI (L - 1)) 8 = y 8 := by rw [qz_uo (by omega), qz_uo (by omega)]
    have b9 : upd (upd y 0 (nI (t + 1))) (1216 + 4 * j + 3) (nI (L - 1)) 9 = nI j := by rw [qz_uo (by omega), qz_uo (by omega)]; exact w2
    have bL : upd (upd y 0 (nI (t + 1))) (1216 + 4 * j + 3) (nI (L - 1)) (1216 + 4 * j + 3) = nI (L - 1) := qz_us
    generalize m_up X 0 (upd (upd (X 0) 6 (nI (t + 1))) 11 (nI (L - 1))) = XA at hR hfr0 a0 aO ⊢
    generalize upd (upd y 0 (nI (t + 1))) (1216 + 4 * j + 3) (nI (L - 1)) = yA at hR b8 b9 bL ⊢
    by_cases e1 : L = 1
    · subst e1
      rw [if_pos rfl] at hR
      rw [if_neg (by decide)]
      obtain ⟨r, XF, yF, f1, f2, f3, f4, f5⟩ := qz_finish (Z := Z) hR (by omega) w1 b9 bL hN
      obtain ⟨X2, y2, f2', e2, t1, t2, t3, t4, t5, t6⟩ := qz_tail (Z := Z) r f3 ht hN
      obtain ⟨z1, z2, z3, z4, z5, z6⟩ := f5
      refine ⟨r, X2, y2, f2', e2, ?_, ?_, t3, qz_fr_tr hfr0 (qz_fr_tr f4 t4), t5, XF, yF, f3, Or.inr (Or.inr ⟨j, by omega, w2, eX11, z3, z2, ?_, ?_, ?_⟩), z4.trans b8, ?_, t6⟩
      · rw [f1, qz_bi, t1]
      · rw [f2, t2]
      · intro s s1 s2 s3
        rw [z1 s s2, a0, qz_uo s3, qz_uo s1]
      · intro i i1 i0 i5 i7 i11 i19 i20
        rw [z5 i i1 i0 i5 i7 i11 i19 i20, aO i i0]
      · intro c hc
        rw [z6 c hc]
        have q : qz_hit XA (nI j) c ↔ qz_hit X (nI j) c := by
          simp only [qz_hit]
          rw [aO 20 (by decide), aO 8 (by decide)]
        by_cases q1 : qz_hit X (nI j) c
        · rw [if_pos (q.mpr q1), if_pos q1]
        · rw [if_neg (fun u => q1 (q.mp u)), if_neg q1, aO 20 (by decide)]
      · rw [z1 6 (by decide), a0, qz_uo (by decide), qz_us]
    · rw [if_neg e1] at hR
      rw [if_pos (show (0 : Int32) < nI (L - 1) from by rw [← nI_0]; exact nI_lt (by omega) (by omega))]
      obtain ⟨X2, y2, f2, e2, t1, t2, t3, t4, t5, t6⟩ := qz_tail (Z := Z) 0 hR ht hN
      refine ⟨0, X2, y2, f2, e2, t1, ?_, t3, qz_fr_tr hfr0 t4, t5, XA, yA, hR, Or.inr (Or.inl ⟨j, L, by omega, w2, eX11, by omega, w6, b9, ?_, ?_, fun i _ i0 => aO i i0⟩), b8, ?_, t6⟩
      · unfold f_X8_tickOnce_40
        rw [if_neg (qz_n5 (by omega)), qz_ofG (v := 3) (w := 3) rfl (by omega) (by omega), qz_bi, bL, if_neg (nI_ne0 (by omega) (by omega))]
        exact t2
      · rw [a0, qz_us]
      · intro s s1 s2
        rw [a0, qz_uo s2, qz_uo s1]
      · rw [a0, qz_uo (by decide), qz_us]
end QT2
