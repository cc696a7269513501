-- run
section QTE
variable {X Y W : XT} {N l q q2 ch a b k m m2 r T F x kd u : Nat} {c : Nat → Nat} {z : Nat → Int32} {v g : Int32}
theorem qt_o_m (ho : qt_o c a q k m r u) : (k = 4 ∨ k = 3 ∨ k = 1 ∨ k = 2 ∨ k = 0) ∧ (k = 4 → c a = 42) ∧ (k = 3 → c a = 43 ∧ 1 ≤ m ∧ ((q = a + 2 ∧ m ≤ 9) ∨ (q = a + 3 ∧ m ≤ 99))) ∧ (k = 1 → c a = 102 ∧ m ≤ 11) ∧ (k = 2 → c a = 119 ∧ m ≤ 11) ∧ (k = 0 → c a ≠ 42 ∧ c a ≠ 43 ∧ c a ≠ 102 ∧ c a ≠ 119 ∧ m ≤ 11 ∧ 1 ≤ r ∧ r ≤ 8 ∧ u ≤ 1) := by
  have h11 : ∀ q m q2 : Nat, qt_n c 11 q m q2 → m ≤ 11 := fun q m q2 ⟨_, _, h⟩ => by rcases h with h | h <;> omega
  rcases ho with ⟨o1, rfl, rfl⟩ | ⟨o1, rfl, o2, _, o4, o3⟩ | ⟨o1, rfl, o2⟩ | ⟨o1, rfl, o2⟩ | ⟨rfl, b, o1, o2, o3, o4, rfl, o6⟩
  · exact ⟨by omega, fun _ => o1, fun h => absurd h (by decide), fun h => absurd h (by decide), fun h => absurd h (by decide), fun h => absurd h (by decide)⟩
  · exact ⟨by omega, fun h => absurd h (by decide), fun _ => ⟨o1, by omega, by omega⟩, fun h => absurd h (by decide), fun h => absurd h (by decide), fun h => absurd h (by decide)⟩
  · exact ⟨by omega, fun h => absurd h (by decide), fun h => absurd h (by decide), fun _ => ⟨o1, h11 _ _ _ o2⟩, fun h => absurd h (by decide), fun h => absurd h (by decide)⟩
  · exact ⟨by omega, fun h => absurd h (by decide), fun h => absurd h (by decide), fun h => absurd h (by decide), fun _ => ⟨o1, h11 _ _ _ o2⟩, fun h => absurd h (by decide)⟩
  · have hm := h11 _ _ _ o1
    obtain ⟨n1, n2, _⟩ := o1
    exact ⟨by omega, fun h => absurd h (by decide), fun h => absurd h (by decide), fun h => absurd h (by decide), fun h => absurd h (by decide), fun _ => ⟨by omega, by omega, by omega, by omega, hm, by omega, by omega, by omega⟩⟩
/-- no semicolon within an order -/
theorem qt_o_59 (ho : qt_o c a q k m r u) : ∀ i : Nat, a ≤ i → i < q → c i ≠ 59 := by
  have hn : ∀ most q m q2 : Nat, qt_n c most q m q2 → ∀ i : Nat, q ≤ i → i < q2 → c i ≠ 59 := fun most q m q2 ⟨h1, h2, h⟩ i i1 i2 => by
    by_cases e : i = q
    · subst e; omega
    · rcases h with h | h
      · omega
      · have e2 : i = q + 1 := by omega
        subst e2; omega
  intro i i1 i2
  rcases ho with ⟨o1, rfl, rfl⟩ | ⟨o1, rfl, o2, o3⟩ | ⟨o1, rfl, o2⟩ | ⟨o1, rfl, o2⟩ | ⟨rfl, b, o1, o2, o3, o4, rfl, o6⟩
  · have e : i = a := by omega
    subst e; omega
  · by_cases e : i = a
    · subst e; omega
    · exact hn _ _ _ _ o3 i (by omega) i2
  · by_cases e : i = a
    · subst e; omega
    · exact hn _ _ _ _ o2 i (by omega) i2
  · by_cases e : i = a
    · subst e; omega
    · exact hn _ _ _ _ o2 i (by omega) i2
  · by_cases e : i < b
    · exact hn _ _ _ _ o1 i i1 e
    · by_cases e1 : i = b
      · subst e1; omega
      · by_cases e2 : i = b + 1
        · subst e2; omega
        · have e3 : i = b + 2 := by omega
          subst e3; omega
theorem qt_or_skip (hT : qt_T c l) (hX : qt_X c l X) {R : Option (Int32 × XT)} : ∀ (d a : Nat), a + d = q → q ≤ l → (∀ i : Nat, a ≤ i → i < q → c i ≠ 59) → (∀ F : Nat, l < F + q → f_X5_orders_4 N F v (nI q) X = R) → ∀ F : Nat, l < F + a → f_X5_orders_4 N F v (nI a) X = R := by
  intro d
  have hl := hT.1
  induction d with
  | zero => intro a e _ _ h F hF; rw [show a = q by omega]; exact h F (by omega)
  | succ d ih =>
    intro a e hq hc h F hF
    obtain ⟨F2, rfl⟩ : ∃ F2, F = F2 + 1 := ⟨F - 1, by omega⟩
    rw [f_X5_orders_4, hX.1, if_neg (nI_ge (by omega) (by omega)), qt_char hT hX (by omega), qz_bi, if_neg (show ¬ nI (c a) = 59 from by rw [qt_e59 (hT.2.1 a)]; exact hc a (by omega) (by omega)), qz_nm, nI_1]
    exact ih (a + 1) (by omega) hq (fun i i1 i2 => hc i (by omega) i2) h F2 (by omega)
theorem qt_orders_l (hT : qt_T c l) (hX : qt_X c l X) : ∀ (k a v : Nat), qt_ok c l (k + 1) a → ∀ F : Nat, l < F + a → f_X5_orders_4 N F (nI v) (nI a) X = some (nI (v + k), X) := by
  intro k
  have hl := hT.1
  induction k with
  | zero =>
    intro a v ⟨q, kd, m, r, u, ho, h⟩
    obtain ⟨a1, a2, _⟩ := qt_A (N := N) hT hX ho
    rcases h with ⟨rfl, _⟩ | ⟨_, h⟩
    · refine qt_or_skip hT hX (q - a) a (by omega) (by omega) (qt_o_59 ho) (fun F hF => ?_)
      obtain ⟨F2, rfl⟩ : ∃ F2, F = F2 + 1 := ⟨F - 1, by omega⟩
      rw [f_X5_orders_4, hX.1, if_pos (nI_le (by omega) (by omega)), Nat.add_zero]
    · exact absurd h (by unfold qt_ok; exact not_false)
  | succ k ih =>
    intro a v ⟨q, kd, m, r, u, ho, h⟩
    obtain ⟨a1, a2, _⟩ := qt_A (N := N) hT hX ho
    rcases h with ⟨_, h⟩ | ⟨h59, h⟩
    · omega
    · have hq : q < l := qt_lt hT (by omega)
      refine qt_or_skip hT hX (q - a) a (by omega) (by omega) (qt_o_59 ho) (fun F hF => ?_)
      obtain ⟨F2, rfl⟩ : ∃ F2, F = F2 + 1 := ⟨F - 1, by omega⟩
      rw [f_X5_orders_4, hX.1, if_neg (nI_ge (by omega) (by omega)), qt_char hT hX (by omega), qz_bi, if_pos (show nI (c q) = 59 from by rw [h59]; rfl), qz_nm, qz_nm, nI_1, nI_1, ih (q + 1) (v + 1) h F2 (by omega), show v + 1 + k = v + (k + 1) by omega]
/-- one order, as it was read -/
theorem qt_step (hS : qz_S T X (W 1)) (hTT : T < 2 ^ 27) (hN : 200 ≤ N) (hT : qt_T c l) (ho : qt_o c a q k m r u) (x3 : X 129 3 = nI k) (w9 : W 0 9 = nI (c a)) (x4 : k ≠ 4 → X 129 4 = nI m) (w10 : k ≠ 4 → W 0 10 = nI m) (x5 : k = 0 → X 129 5 = nI r ∧ X 129 6 = nI u) (w11 : k = 0 → W 0 11 = nI r ∧ W 0 12 = nI u) : ∃ (b : Int32) (X2 : XT) (y2 : Nat → Int32), f_X7_carryOutOrder N X = some (b, X2) ∧ f_X8_doesOrder N W = some (b, m_up W 1 y2) ∧ (b = 0 ∨ b = 1) ∧ qz_S (T + if k = 3 then m else 0) X2 y2 ∧ qz_fr X X2 := by
  have hca := hT.2.1 a
  obtain ⟨p0, p4, p3, p1, p2, p5⟩ := qt_o_m ho
  unfold f_X7_carryOutOrder f_X8_doesOrder f_X5_number f_X5_kind
  rw [qz_bi, qz_bi, x3, w9]
  rcases p0 with rfl | rfl | rfl | rfl | rfl
  · rw [if_neg (show ¬ nI 4 = 0 by decide), if_neg (show ¬ nI 4 = 1 by decide), if_neg (show ¬ nI 4 = 2 by decide), if_neg (show ¬ nI 4 = 3 by decide), if_pos (show nI (c a) = 42 from by rw [p4 rfl]; rfl)]
    obtain ⟨r4, X3, y3, u1, u2, u3, u4, u5⟩ := qz_crash (Z := W) hS hN
    rw [qz_ue] at u2
    rw [u1, u2, qz_bi, qz_bi, if_neg u5]
    exact ⟨1, X3, y3, rfl, rfl, Or.inr rfl, by rw [if_neg (by decide)]; exact u3, u4⟩
  · obtain ⟨c1, c2, c3⟩ := p3 rfl
    rw [if_neg (show ¬ nI 3 = 0 by decide), if_neg (show ¬ nI 3 = 1 by decide), if_neg (show ¬ nI 3 = 2 by decide), if_pos (show nI 3 = 3 from rfl), if_neg (show ¬ nI (c a) = 42 from by rw [c1]; decide), if_pos (show nI (c a) = 43 from by rw [c1]; rfl), x4 (by decide), w10 (by decide)]
    obtain ⟨r4, X3, y3, u1, u2, u3, u4⟩ := qz_ticks (Z := W) (show m ≤ 99 by omega) (by omega) hN hS
    rw [qz_ue] at u2
    rw [u1, u2, qz_bi, qz_bi, if_neg (qt_ticks_r (show m < 2 ^ 20 by omega) u1)]
    exact ⟨1, X3, y3, rfl, rfl, Or.inr rfl, by rw [if_pos rfl]; exact u3, u4⟩
  · obtain ⟨c1, c2⟩ := p1 rfl
    rw [if_neg (show ¬ nI 1 = 0 by decide), if_pos (show nI 1 = 1 from rfl), if_neg (show ¬ nI (c a) = 42 from by rw [c1]; decide), if_neg (show ¬ nI (c a) = 43 from by rw [c1]; decide), if_pos (show nI (c a) = 102 from by rw [c1]; rfl), x4 (by decide), w10 (by decide)]
    obtain ⟨r4, X3, y3, u1, u2, u3, u4, u5⟩ := qz_fail (Z := W) hS (show m < 12 by omega) hN
    rw [qz_ue] at u2
    rw [u1, u2, qz_bi, qz_bi, if_neg u5]
    exact ⟨1, X3, y3, rfl, rfl, Or.inr rfl, by rw [if_neg (by decide)]; exact u3, u4⟩
  · obtain ⟨c1, c2⟩ := p2 rfl
    rw [if_neg (show ¬ nI 2 = 0 by decide), if_neg (show ¬ nI 2 = 1 by decide), if_pos (show nI 2 = 2 from rfl), if_neg (show ¬ nI (c a) = 42 from by rw [c1]; decide), if_neg (show ¬ nI (c a) = 43 from by rw [c1]; decide), if_neg (show ¬ nI (c a) = 102 from by rw [c1]; decide), if_pos (show nI (c a) = 119 from by rw [c1]; rfl), x4 (by decide), w10 (by decide)]
    have hS0 := hS
    obtain ⟨n, p, f, e, t, h, hfe, hTl⟩ := hS
    rcases qz_canW (Z := W) h (show m < 12 by omega) hN with ⟨e1, e2, k0, w3, w4, w5, w6⟩ | ⟨e1, e2⟩
    · rw [qz_ue] at e2
      obtain ⟨r4, X3, y3, u1, u2, u3, u4, u5⟩ := qz_withdraw (Z := W) hS0 (show m < 12 by omega) hN (fun n2 p2 f2 e2 t2 h2 => ⟨k0, by
        have q1 := qzR_ny h2
        rw [qzR_ny h] at q1
        have q2 := qzR_nn h
        have q3 := qzR_nn h2
        have q4 := (nI_eq (by omega) (by omega)).mp q1
        omega, w4, w5, w6⟩)
      rw [qz_ue] at u2
      rw [e1, e2, qz_bi, qz_bi, if_pos rfl, if_neg qz_10, w10 (by decide), u1, u2, qz_bi, qz_bi, if_neg u5]
      exact ⟨1, X3, y3, rfl, rfl, Or.inr rfl, by rw [if_neg (by decide)]; exact u3, u4⟩
    · rw [qz_ue] at e2
      rw [e1, e2, qz_bi, qz_bi, if_neg (by decide), if_pos rfl]
      exact ⟨0, X, W 1, rfl, by rw [qz_ue], Or.inl rfl, by rw [if_neg (by decide)]; exact hS0, qz_fr_rf⟩
  · obtain ⟨c1, c2, c3, c4, c5, c6, c7, c8⟩ := p5 rfl
    obtain ⟨x51, x52⟩ := x5 rfl
    obtain ⟨w111, w112⟩ := w11 rfl
    have hS0 := hS
    obtain ⟨n, p, f, e, t, h, hfe, hTl⟩ := hS
    obtain ⟨r3, e1, e2, e3⟩ := qz_refuse (Z := W) h hN (nI m) (nI r)
    rw [qz_ue] at e2
    unfold f_X5_records f_X5_isUrgent
    have hu : nI u = 0 ∨ nI u = 1 := by
      have hu2 : u = 0 ∨ u = 1 := by omega
      rcases hu2 with rfl | rfl
      · exact Or.inl rfl
      · exact Or.inr rfl
    rw [if_pos nI_0, if_neg (show ¬ nI (c a) = 42 from by rw [qt_e42 hca]; exact c1), if_neg (show ¬ nI (c a) = 43 from by rw [qt_e43 hca]; exact c2), if_neg (show ¬ nI (c a) = 102 from by rw [qt_e102 hca]; exact c3), if_neg (show ¬ nI (c a) = 119 from by rw [qt_e119 hca]; exact c4), qz_bi, x4 (by decide), w10 (by decide), x51, w111, e1, e2, qz_bi, qz_bi, qz_bi]
    by_cases h0 : r3 = 0
    · obtain ⟨c0, r0, hc, d1, hr1, hr2, d2, hn, hfree⟩ := e3 h0
      obtain ⟨r4, X3, y3, u1, u2, u3, u4, u5⟩ := qz_submitS (Z := W) (u := nI u) hS0 hN (fun n2 p2 f2 e2 t2 h2 => by
        have q1 := qzR_ny h2
        rw [qzR_ny h] at q1
        have q2 := qzR_nn h
        have q3 := qzR_nn h2
        have q4 := (nI_eq (by omega) (by omega)).mp q1
        omega) hc ⟨hr1, hr2⟩ hfree hu
      rw [qz_ue, ← d1, ← d2] at u2
      rw [← d1, ← d2] at u1
      rw [if_pos h0, if_pos h0, x51, x52, qz_gd hu, qz_bi, w10 (by decide), w111, w112, u1, u2, qz_bi, qz_bi, if_neg u5]
      exact ⟨1, X3, y3, rfl, rfl, Or.inr rfl, by rw [if_neg (by decide)]; exact u3, u4⟩
    · rw [if_neg h0, if_neg h0]
      exact ⟨0, X, W 1, rfl, by rw [qz_ue], Or.inl rfl, by rw [if_neg (by decide)]; exact hS0, qz_fr_rf⟩
def qt_pot (L : Nat) : Nat := 99 * (L / 4) + 3 * (L % 4)
theorem qt_run_1 {dn : Nat} (hT : qt_T c l) (hX : qt_X c l X) (hY : qt_Y c l W) (hN : 200 ≤ N) (h7 : W 0 7 = nI l) (hx2 : X 129 2 = nI a) (hw8 : W 0 8 = nI a) (ha : a < l) (hS : qz_S T X (W 1)) (hTT : T < 2 ^ 27) (hdn : dn + k < 2 ^ 20) (ho : qt_o c a q kd m r u) (hend : c q = 59 ∨ q = l) (hq : q ≤ l) : ∃ X3 W3 : XT, ((f_X7_run_47 N (F + 1) (nI (dn + (k + 1))) (nI dn) X = some (nI dn, X3) ∧ f_X8_run_29 N (F + 1) (nI dn) 1 W = f_X8_run_29 N F (nI dn) 0 W3) ∨ (f_X7_run_47 N (F + 1) (nI (dn + (k + 1))) (nI dn) X = f_X7_run_47 N F (nI (dn + (k + 1))) (nI (dn + 1)) X3 ∧ f_X8_run_29 N (F + 1) (nI dn) 1 W = f_X8_run_29 N F (nI (dn + 1)) 1 W3)) ∧ qz_S (T + if kd = 3 then m else 0) X3 (W3 1) ∧ (∀ i : Nat, 21 ≤ i → i ≠ 129 → X3 i = X i) ∧ X3 129 1 = nI l ∧ X3 129 2 = nI (q + 1) ∧ (∀ i : Nat, 2 ≤ i → W3 i = W i) ∧ qt_fr (W 0) (W3 0) ∧ W3 0 8 = nI (q + 1) := by
  have hl := hT.1
  obtain ⟨w2, r1, r2, r3, r4, r5, r6⟩ := qt_R (N := N) (w := X 129) hT hX hX.1 hx2 (by omega) hN ho hend
  rw [qz_ue] at r1
  obtain ⟨z2, s1, s2, s3, s4, s5, s6⟩ := qt_M (N := N) (Y := W) (z := W 0) hT hY h7 hw8 (by omega) ho
  rw [qz_ue] at s1
  have e129 : m_up X 129 w2 129 = w2 := qz_up _ _ _
  have e0 : m_up W 0 z2 0 = z2 := qz_up _ _ _
  obtain ⟨b, X3, y3, t1, t2, t3, t4, t5⟩ := qt_step (N := N) (X := m_up X 129 w2) (W := m_up W 0 z2) (T := T) (by rw [qz_un _ _ (show (1 : Nat) ≠ 0 by decide)]; exact qz_S_cp hS (qz_cp_eq (fun j hj => qz_un _ _ (by omega))) (fun _ _ => rfl)) hTT hN hT ho (by rw [e129]; exact r4) (by rw [e0]; exact s4) (fun h => by rw [e129]; exact r5 h) (fun h => by rw [e0]; exact s5 h) (fun h => by rw [e129]; exact r6 h) (fun h => by rw [e0]; exact s6 h)
  have f0 : m_up (m_up W 0 z2) 1 y3 0 = z2 := by rw [qz_un _ _ (show (0 : Nat) ≠ 1 by decide), e0]
  have c129 : X3 129 = w2 := (t5 129 (by omega)).trans e129
  refine ⟨X3, m_up (m_up (m_up W 0 z2) 1 y3) 0 (upd z2 8 (nI (q + 1))), ?_, ?_, fun i i1 i2 => ?_, ?_, ?_, fun i hi => ?_, fun s hs => ?_, ?_⟩
  · rw [f_X7_run_47, f_X8_run_29, if_neg (nI_ge (by omega) (by omega)), if_neg qz_10, h7, hw8, if_neg (nI_ge (by omega) (by omega)), r1, s1, qz_bv, qz_bi, if_neg qz_10, t1, t2, qz_bi, qz_bi]
    rcases t3 with rfl | rfl
    · refine Or.inl ⟨by rw [if_pos rfl], ?_⟩
      rw [if_pos rfl, if_pos rfl, qz_nm, qz_nm, qz_nm, f0, s3, nI_1, Int32.add_zero]
    · refine Or.inr ⟨by rw [if_neg qz_10, qz_nm, nI_1], ?_⟩
      rw [if_neg qz_10, if_neg qz_10, qz_nm, qz_nm, qz_nm, f0, s3, nI_1, nI_1]
  · rw [qz_un _ _ (show (1 : Nat) ≠ 0 by decide), qz_up]; exact t4
  · rw [t5 i i1, qz_un _ _ i2]
  · rw [c129]; exact r2
  · rw [c129]; exact r3
  · rw [qz_un _ _ (by omega), qz_un _ _ (by omega), qz_un _ _ (by omega)]
  · rw [qz_up, qz_uo (by omega)]; exact s2 s hs
  · rw [qz_up, qz_us]
theorem qt_run_l (hT : qt_T c l) (hN : 200 ≤ N) : ∀ (k a dn T F : Nat) (X W : XT), qt_ok c l (k + 1) a → qt_X c l X → qt_Y c l W → W 0 7 = nI l → X 129 2 = nI a → W 0 8 = nI a → qz_S T X (W 1) → T + qt_pot (l + 1 - a) < 2 ^ 26 → k + 2 < F → dn + k < 2 ^ 20 → ∃ (r : Int32) (X2 W2 : XT), f_X7_run_47 N F (nI (dn + (k + 1))) (nI dn) X = some (r, X2) ∧ f_X8_run_29 N F (nI dn) 1 W = some (r, W2) ∧ qz_S (T + qt_pot (l + 1 - a)) X2 (W2 1) ∧ (∀ i : Nat, 21 ≤ i → i ≠ 129 → X2 i = X i) ∧ X2 129 1 = nI l ∧ (∀ i : Nat, 2 ≤ i → W2 i = W i) ∧ qt_fr (W 0) (W2 0) := by
  have hl := hT.1
  intro k
  induction k with
  | zero =>
    intro a dn T F X W hok hX hY h7 hx2 hw8 hS hp hF hdn
    obtain ⟨q, kd, m, r, u, ho, hend⟩ := hok
    obtain ⟨a1, a2, _⟩ := qt_A (N := N) hT hX ho
    have hql : q = l := by
      rcases hend with ⟨h, _⟩ | ⟨_, h⟩
      · exact h
      · exact absurd h (by unfold qt_ok; exact not_false)
    obtain ⟨_, _, p3, _⟩ := qt_o_m ho
    obtain ⟨F, rfl⟩ : ∃ G, F = G + 1 + 1 := ⟨F - 2, by omega⟩
    obtain ⟨X3, W3, b1, b2, b3, b4, b5, b6, b7, b8⟩ := qt_run_1 (N := N) (F := F + 1) (k := 0) (dn := dn) hT hX hY hN h7 hx2 hw8 (by omega) hS (by omega) hdn ho (Or.inr hql) a2
    have hle : T + (if kd = 3 then m else 0) ≤ T + qt_pot (l + 1 - a) := by
      unfold qt_pot
      by_cases e : kd = 3
      · obtain ⟨_, _, h⟩ := p3 e
        rw [if_pos e]
        omega
      · rw [if_neg e]; omega
    rcases b1 with ⟨c1, c2⟩ | ⟨c1, c2⟩
    · exact ⟨nI dn, X3, W3, c1, by rw [c2, f_X8_run_29, if_pos rfl], qz_S_le hle b2, b3, b4, b6, b7⟩
    · refine ⟨nI (dn + 1), X3, W3, ?_, ?_, qz_S_le hle b2, b3, b4, b6, b7⟩
      · rw [c1, f_X7_run_47, if_pos (nI_le (by omega) (by omega))]
      · rw [c2, f_X8_run_29, if_neg qz_10, b8, b7 7 (by decide), h7, if_pos (nI_le (by omega) (by omega))]
  | succ k ih =>
    intro a dn T F X W hok hX hY h7 hx2 hw8 hS hp hF hdn
    obtain ⟨q, kd, m, r, u, ho, hend⟩ := hok
    obtain ⟨a1, a2, _⟩ := qt_A (N := N) hT hX ho
    obtain ⟨h59, hok2⟩ : c q = 59 ∧ qt_ok c l (k + 1) (q + 1) := by
      rcases hend with ⟨_, h⟩ | h
      · omega
      · exact h
    have hql : q < l := qt_lt hT (by omega)
    obtain ⟨_, _, p3, _⟩ := qt_o_m ho
    obtain ⟨F, rfl⟩ : ∃ G, F = G + 1 + 1 := ⟨F - 2, by omega⟩
    obtain ⟨X3, W3, b1, b2, b3, b4, b5, b6, b7, b8⟩ := qt_run_1 (N := N) (F := F + 1) (k := k + 1) (dn := dn) hT hX hY hN h7 hx2 hw8 (by omega) hS (by omega) hdn ho (Or.inl h59) a2
    have hle : T + (if kd = 3 then m else 0) + qt_pot (l + 1 - (q + 1)) ≤ T + qt_pot (l + 1 - a) := by
      unfold qt_pot
      by_cases e : kd = 3
      · obtain ⟨_, _, h⟩ := p3 e
        rw [if_pos e]
        omega
      · rw [if_neg e]; omega
    rcases b1 with ⟨c1, c2⟩ | ⟨c1, c2⟩
    · exact ⟨nI dn, X3, W3, c1, by rw [c2, f_X8_run_29, if_pos rfl], qz_S_le (by omega) b2, b3, b4, b6, b7⟩
    · obtain ⟨r2, X4, W4, d1, d2, d3, d4, d5, d6, d7⟩ := ih (q + 1) (dn + 1) (T + if kd = 3 then m else 0) (F + 1) X3 W3 hok2 ⟨b4, fun i hi => by rw [b3 130 (by omega) (by omega)]; exact hX.2 i hi⟩ (fun i hi => by rw [b6 5 (by omega)]; exact hY i hi) (by rw [b7 7 (by decide)]; exact h7) b5 b8 b2 (by omega) (by omega) (by omega)
      refine ⟨r2, X4, W4, ?_, by rw [c2, d2], qz_S_le hle d3, fun i i1 i2 => (d4 i i1 i2).trans (b3 i i1 i2), d5, fun i hi => (d6 i hi).trans (b6 i hi), fun s hs => (d7 s hs).trans (b7 s hs)⟩
      rw [c1, show dn + (k + 1 + 1) = dn + 1 + (k + 1) by omega, d1]
theorem qt_I_fin {T2 : Nat} {X2 W2 : XT} (hI : qz_I T X W) (hTT : T ≤ T2) (hf : ∀ i : Nat, 21 ≤ i → i ≠ 129 → X2 i = X i) (h129 : X2 129 1 = X 129 1) (hW : ∀ i : Nat, 2 ≤ i → W2 i = W i) (h0 : qt_fr (W 0) (W2 0)) (hS : qz_S T2 X2 (W2 1)) : qz_I T2 X2 W2 := by
  obtain ⟨_, hs, ⟨o, h, a1, a2, a3, a4, a5, a6⟩, ⟨l, b1, b2, b3, b4⟩⟩ := hI
  refine ⟨hS, ?_, ⟨o, h, a1, a2, ?_, ?_, ?_, fun j hj => ?_⟩, ⟨l, b1, ?_, ?_, fun q hq => ?_⟩⟩
  · rcases hs with ⟨u1, u2⟩ | ⟨u1, u2, u3⟩
    · exact Or.inl ⟨by rw [hf 126 (by omega) (by omega)]; exact u1, by rw [h0 5 (by decide)]; exact u2⟩
    · exact Or.inr ⟨by rw [hf 126 (by omega) (by omega)]; exact u1, by rw [h0 5 (by decide)]; exact u2, qz_S_le hTT (qz_S_cp u3 (qz_cp_eq (fun i hi => hf (21 * 1 + i) (by omega) (by omega))) (fun a _ => by rw [hW 4 (by omega)]))⟩
  · rw [hf 127 (by omega) (by omega)]; exact a3
  · rw [hf 127 (by omega) (by omega)]; exact a4
  · rw [h0 3 (by decide)]; exact a5
  · exact qz_S_le hTT (qz_S_cp (a6 j hj) (qz_cp_eq (fun q hq => hf (21 * (2 + (o + j) % 4) + q) (by omega) (by omega))) (fun a _ => by rw [hW 3 (by omega)]))
  · rw [h129]; exact b2
  · rw [h0 7 (by decide)]; exact b3
  · rw [hf 130 (by omega) (by omega), hW 5 (by omega)]; exact b4 q hq
theorem qt_ok_k (hT : qt_T c l) (hX : qt_X c l X) : ∀ k a : Nat, qt_ok c l (k + 1) a → k + 1 + a ≤ l := by
  intro k
  induction k with
  | zero =>
    intro a ⟨q, kd, m, r, u, ho, _⟩
    obtain ⟨a1, a2, _⟩ := qt_A (N := 0) hT hX ho
    omega
  | succ k ih =>
    intro a ⟨q, kd, m, r, u, ho, hend⟩
    obtain ⟨a1, a2, _⟩ := qt_A (N := 0) hT hX ho
    rcases hend with ⟨_, h⟩ | ⟨_, h⟩
    · omega
    · have := ih (q + 1) h
      omega
theorem qz_st_run (hN : 6000 ≤ N) : m_st_run N qz_Inv := by
  intro i X Y hi hI
  have hI2 := hI
  obtain ⟨_, _, _, ⟨l, ht⟩⟩ := hI2
  obtain ⟨c, t1, t2, t3⟩ := qt_of_text ht
  have hl := t1.1
  obtain ⟨v, z2, f1, f2, f3, f4⟩ := qt_fault t1 t2 t3 ht.2.2.1 (show 200 ≤ N by omega)
  unfold f_X7_run f_X8_run
  rw [f1, f2, qz_bi, qz_bi]
  by_cases hv : v = -5
  · obtain ⟨k, hok⟩ := f4 hv
    obtain ⟨k, rfl⟩ : ∃ k2, k = k2 + 1 := by
      cases k with
      | zero => exact absurd hok (by unfold qt_ok; exact not_false)
      | succ k => exact ⟨k, rfl⟩
    obtain ⟨X2, Y2, p1, p2, p3, p4⟩ := qz_push (N := N) (qt_I_y hI f3) hN
    obtain ⟨s1, s2, s3, s4, s5, s6, s7, s8⟩ := p4
    have x1 : qt_X c l X2 := ⟨by rw [s3]; exact t2.1, fun q hq => by rw [s4]; exact t2.2 q hq⟩
    have y1 : qt_Y c l Y2 := fun q hq => by rw [s8, qz_un _ _ (show (5 : Nat) ≠ 0 by decide)]; exact t3 q hq
    have y7 : Y2 0 7 = nI l := by rw [s5 7 (by decide), qz_up, f3 7 (by decide)]; exact ht.2.2.1
    have ho : f_X5_orders N X2 = some (nI (1 + k), X2) := qt_orders_l t1 x1 k 0 1 hok N (by omega)
    have hg : ∀ U : XT, f_X5_goToStart N U = some (m_up U 129 (upd (U 129) 2 0)) := fun U => rfl
    rw [if_pos hv, if_pos hv, p1, p2, qz_bv, qz_bv, ho, qz_bi, hg, qz_bv, qz_nm]
    have hk := qt_ok_k t1 x1 k 0 hok
    have hx : (m_up X2 129 (upd (X2 129) 2 0)) 129 1 = X2 129 1 := by rw [qz_up, qz_uo (by decide)]
    have hpot : qt_pot (l + 1 - 0) ≤ 2000 := by unfold qt_pot; omega
    obtain ⟨r, X3, W3, e1, e2, e3, e4, e5, e6, e7⟩ := qt_run_l (N := N) t1 (by omega) k 0 0 (2000 * i) N (m_up X2 129 (upd (X2 129) 2 0)) (m_up Y2 0 (upd (Y2 0) 8 0)) hok (qt_X_up x1 (by rw [qz_uo (by decide)]; exact x1.1)) (fun q hq => by rw [qz_un _ _ (show (5 : Nat) ≠ 0 by decide)]; exact y1 q hq) (by rw [qz_up, qz_uo (by decide)]; exact y7) (by rw [qz_up, qz_us]; rfl) (by rw [qz_up, qz_us]; rfl) (by rw [qz_un _ _ (show (1 : Nat) ≠ 0 by decide)]; exact qz_S_cp p3.1 (qz_cp_eq (fun j hj => qz_un _ _ (by omega))) (fun _ _ => rfl)) (by omega) (by omega) (by omega)
    rw [nI_0, Nat.zero_add] at e1
    rw [nI_0] at e2
    refine ⟨r, X3, W3, by rw [Nat.add_comm 1 k]; exact e1, e2, ?_⟩
    refine qt_I_fin p3 (by omega) (fun j j1 j2 => by rw [e4 j j1 j2, qz_un _ _ j2]) (by rw [e5, x1.1]) (fun j hj => by rw [e6 j hj, qz_un _ _ (by omega)]) (fun s hs => by rw [e7 s hs, qz_up, qz_uo (by omega)]) (qz_S_le (by omega) e3)
  · rw [if_neg hv, if_neg hv, qz_nm, qz_nm]
    exact ⟨_, X, _, rfl, rfl, qz_Inv_s (qt_I_y hI f3)⟩
end QTE
