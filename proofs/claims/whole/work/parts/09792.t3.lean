-- the text, both sides: where the fault is
section QTC
variable {X Y : XT} {N l q q2 ch a b k m m2 r T : Nat} {c : Nat → Nat} {z : Nat → Int32} {v : Int32}
theorem qt_na (hT : qt_T c l) (hX : qt_X c l X) (hn : qt_n c 11 a m b) : ∃ s : Int32, (s = 1 ∨ s = 2) ∧ b ≤ l ∧ (∀ v : Int32, qt_to N l X s b v → qt_to N l X 0 a v) ∧ (c b ≠ 58 → f_X5_after N s (nI (c b)) X = some (-1, X)) ∧ (c b = 58 → f_X5_after N s (nI (c b)) X = some (3, X)) := by
  obtain ⟨n1, n2, n3⟩ := hn
  have ha : a < l := qt_lt hT (by omega)
  rcases n3 with ⟨rfl, _, g⟩ | ⟨rfl, g1, g2, g3, rfl, g5⟩
  · by_cases h : c a = 49
    · exact ⟨1, Or.inl rfl, by omega, fun v hv => qt_to_s hT hX ha (by decide) (qt_a0_49 (hT.2.1 a) h) hv, fun w => qt_a1_w (hT.2.1 _) (by omega), fun w => qt_a1_c (hT.2.1 _) w⟩
    · exact ⟨2, Or.inr rfl, by omega, fun v hv => qt_to_s hT hX ha (by decide) (qt_a0_d (hT.2.1 a) (by omega)) hv, fun w => qt_a2_w (hT.2.1 _) w, fun w => qt_a2_c (hT.2.1 _) w⟩
  · have ha1 : a + 1 < l := qt_lt hT (by omega)
    exact ⟨2, Or.inr rfl, by omega, fun v hv => qt_to_s hT hX ha (by decide) (qt_a0_49 (hT.2.1 a) (by omega)) (qt_to_s hT hX ha1 (by decide) (qt_a1_d (hT.2.1 _) (by omega)) hv), fun w => qt_a2_w (hT.2.1 _) w, fun w => qt_a2_c (hT.2.1 _) w⟩
theorem qt_nf (hT : qt_T c l) (hX : qt_X c l X) (hn : qt_n c 11 q m q2) : ∃ s : Int32, (s = 6 ∨ s = 9) ∧ q2 ≤ l ∧ (∀ v : Int32, qt_to N l X s q2 v → qt_to N l X 5 q v) ∧ (c q2 ≠ 59 → f_X5_after N s (nI (c q2)) X = some (-1, X)) ∧ (c q2 = 59 → f_X5_after N s (nI (c q2)) X = some (0, X)) := by
  obtain ⟨n1, n2, n3⟩ := hn
  have ha : q < l := qt_lt hT (by omega)
  rcases n3 with ⟨rfl, _, g⟩ | ⟨rfl, g1, g2, g3, rfl, g5⟩
  · by_cases h : c q = 49
    · exact ⟨6, Or.inl rfl, by omega, fun v hv => qt_to_s hT hX ha (by decide) (qt_a5_1 (hT.2.1 q) h) hv, fun w => qt_a6_w (hT.2.1 _) (by omega), fun w => qt_a6_e (hT.2.1 _) w⟩
    · exact ⟨9, Or.inr rfl, by omega, fun v hv => qt_to_s hT hX ha (by decide) (qt_a5_d (hT.2.1 q) (by omega)) hv, fun w => qt_a9_w (hT.2.1 _) w, fun w => qt_a9_e (hT.2.1 _) w⟩
  · have ha1 : q + 1 < l := qt_lt hT (by omega)
    exact ⟨9, Or.inr rfl, by omega, fun v hv => qt_to_s hT hX ha (by decide) (qt_a5_1 (hT.2.1 q) (by omega)) (qt_to_s hT hX ha1 (by decide) (qt_a6_d (hT.2.1 _) (by omega)) hv), fun w => qt_a9_w (hT.2.1 _) w, fun w => qt_a9_e (hT.2.1 _) w⟩
theorem qt_np (hT : qt_T c l) (hX : qt_X c l X) (h49 : 49 ≤ c q) (hn : qt_n c 99 q m q2) : ∃ s : Int32, (s = 8 ∨ s = 9) ∧ q2 ≤ l ∧ (∀ v : Int32, qt_to N l X s q2 v → qt_to N l X 7 q v) ∧ (c q2 ≠ 59 → f_X5_after N s (nI (c q2)) X = some (-1, X)) ∧ (c q2 = 59 → f_X5_after N s (nI (c q2)) X = some (0, X)) := by
  obtain ⟨n1, n2, n3⟩ := hn
  have ha : q < l := qt_lt hT (by omega)
  have hst := qt_a7_d (N := N) (X := X) (hT.2.1 q) ⟨h49, n2⟩
  rcases n3 with ⟨rfl, _, g⟩ | ⟨rfl, g1, g2, g3, rfl, g5⟩
  · exact ⟨8, Or.inl rfl, by omega, fun v hv => qt_to_s hT hX ha (by decide) hst hv, fun w => qt_a8_w (hT.2.1 _) (by omega), fun w => qt_a8_e (hT.2.1 _) w⟩
  · have ha1 : q + 1 < l := qt_lt hT (by omega)
    exact ⟨9, Or.inr rfl, by omega, fun v hv => qt_to_s hT hX ha (by decide) hst (qt_to_s hT hX ha1 (by decide) (qt_a8_d (hT.2.1 _) (by omega)) hv), fun w => qt_a9_w (hT.2.1 _) w, fun w => qt_a9_e (hT.2.1 _) w⟩
/-- the automaton over a good order -/
theorem qt_A {u : Nat} (hT : qt_T c l) (hX : qt_X c l X) (ho : qt_o c a q k m r u) : a < q ∧ q ≤ l ∧ ∃ s : Int32, (s = 4 ∨ s = 6 ∨ s = 8 ∨ s = 9) ∧ (∀ v : Int32, qt_to N l X s q v → qt_to N l X 0 a v) ∧ (c q ≠ 59 → f_X5_after N s (nI (c q)) X = some (-1, X)) ∧ (c q = 59 → f_X5_after N s (nI (c q)) X = some (0, X)) := by
  rcases ho with ⟨o1, rfl, rfl⟩ | ⟨o1, rfl, o2, o3⟩ | ⟨o1, rfl, o2⟩ | ⟨o1, rfl, o2⟩ | ⟨rfl, b, o1, o2, o3, o4, rfl, o6⟩
  · have ha : a < l := qt_lt hT (by omega)
    exact ⟨by omega, by omega, 9, by decide, fun v hv => qt_to_s hT hX ha (by decide) (qt_a0_s (hT.2.1 a) o1) hv, fun w => qt_a9_w (hT.2.1 _) w, fun w => qt_a9_e (hT.2.1 _) w⟩
  · have ha : a < l := qt_lt hT (by omega)
    obtain ⟨s, s1, s2, s3, s4, s5⟩ := qt_np (N := N) hT hX o2 o3
    have hq := qt_n_q o3
    exact ⟨by omega, s2, s, by rcases s1 with rfl | rfl <;> decide, fun v hv => qt_to_s hT hX ha (by decide) (qt_a0_p (hT.2.1 a) o1) (s3 v hv), s4, s5⟩
  · have ha : a < l := qt_lt hT (by omega)
    obtain ⟨s, s1, s2, s3, s4, s5⟩ := qt_nf (N := N) hT hX o2
    have hq := qt_n_q o2
    exact ⟨by omega, s2, s, by rcases s1 with rfl | rfl <;> decide, fun v hv => qt_to_s hT hX ha (by decide) (qt_a0_f (hT.2.1 a) (Or.inl o1)) (s3 v hv), s4, s5⟩
  · have ha : a < l := qt_lt hT (by omega)
    obtain ⟨s, s1, s2, s3, s4, s5⟩ := qt_nf (N := N) hT hX o2
    have hq := qt_n_q o2
    exact ⟨by omega, s2, s, by rcases s1 with rfl | rfl <;> decide, fun v hv => qt_to_s hT hX ha (by decide) (qt_a0_f (hT.2.1 a) (Or.inr o1)) (s3 v hv), s4, s5⟩
  · obtain ⟨s, s1, s2, s3, s4, s5⟩ := qt_na (N := N) hT hX o1
    have hq := qt_n_q o1
    have hb : b < l := qt_lt hT (by omega)
    have hb1 : b + 1 < l := qt_lt hT (by omega)
    have hst : ∀ v : Int32, qt_to N l X 4 (b + 2) v → qt_to N l X 0 a v := fun v hv => s3 v (qt_to_s hT hX hb (by decide) (s5 o2) (qt_to_s hT hX hb1 (by decide) (qt_a3_d (hT.2.1 _) ⟨o3, o4⟩) hv))
    rcases o6 with ⟨q1, rfl, rfl⟩ | ⟨q1, rfl, rfl⟩
    · have hb2 : b + 2 < l := qt_lt hT (by omega)
      exact ⟨by omega, by omega, 9, by decide, fun v hv => hst v (qt_to_s hT hX hb2 (by decide) (qt_a4_x (hT.2.1 _) q1) hv), fun w => qt_a9_w (hT.2.1 _) w, fun w => qt_a9_e (hT.2.1 _) w⟩
    · exact ⟨by omega, by omega, 4, by decide, hst, fun w => qt_a4_w (hT.2.1 _) ⟨q1, w⟩, fun w => qt_a4_e (hT.2.1 _) w⟩
/-- at a place there is an order, or both find the same fault -/
theorem qt_F (hT : qt_T c l) (hX : qt_X c l X) (hY : qt_Y c l Y) (h7 : z 7 = nI l) (h8 : z 8 = nI a) (ha : a ≤ l) : (∃ q k m r u : Nat, qt_o c a q k m r u) ∨ (∃ (q : Nat) (z2 : Nat → Int32), q ≤ l ∧ f_X8_readsOrder N (m_up Y 0 z) = some (0, m_up Y 0 z2) ∧ qt_fr z z2 ∧ z2 8 = nI q ∧ qt_to N l X 0 a (nI q)) := by
  have hl := hT.1
  have hca := hT.2.1 a
  by_cases h42 : c a = 42
  · exact Or.inl ⟨a + 1, 4, 0, 0, 0, Or.inl ⟨h42, rfl, rfl⟩⟩
  have g7 : upd z 9 (nI (c a)) 7 = nI l := by rw [qz_uo (by decide), h7]
  have g8 : upd z 9 (nI (c a)) 8 = nI a := by rw [qz_uo (by decide), h8]
  have g9 : upd z 9 (nI (c a)) 9 = nI (c a) := qz_us
  have gf : ∀ s : Nat, s ≠ 9 → upd z 9 (nI (c a)) s = z s := fun s s1 => qz_uo s1
  have hro : f_X8_readsOrder N (m_up Y 0 z) = (if nI (c a) = 43 then (m_bi (f_X8_readsNumber N 1 99 (m_up Y 0 (upd (upd z 9 (nI (c a))) 8 (nI (a + 1))))) fun r_19 X_19 => m_gd (r_19 = 0 ∨ r_19 = 1) <| some (r_19, X_19)) else if nI (c a) = 102 then (m_bi (f_X8_readsNumber N 0 11 (m_up Y 0 (upd (upd z 9 (nI (c a))) 8 (nI (a + 1))))) fun r_30 X_30 => m_gd (r_30 = 0 ∨ r_30 = 1) <| some (r_30, X_30)) else if nI (c a) = 119 then (m_bi (f_X8_readsNumber N 0 11 (m_up Y 0 (upd (upd z 9 (nI (c a))) 8 (nI (a + 1))))) fun r_41 X_41 => m_gd (r_41 = 0 ∨ r_41 = 1) <| some (r_41, X_41)) else (m_bi (f_X8_readsSubmit N (m_up Y 0 (upd z 9 (nI (c a))))) fun r_45 X_45 => m_gd (r_45 = 0 ∨ r_45 = 1) <| some (r_45, X_45))) := by
    unfold f_X8_readsOrder
    rw [qt_next hT hY h7 h8 (by omega), qz_bi, qz_nm, qz_up Y 0 z, qz_uu Y 0 z, qz_up Y 0 (upd z 9 (nI (c a))), g9, if_neg (show ¬ nI (c a) = 42 from by rw [qt_e42 hca]; exact h42)]
    by_cases h1 : nI (c a) = 43
    · rw [if_pos h1, if_pos h1, qz_nm, qz_nm, qz_uu Y 0 _, g8, nI_1]
    · rw [if_neg h1, if_neg h1]
      by_cases h2 : nI (c a) = 102
      · rw [if_pos h2, if_pos h2, qz_nm, qz_nm, qz_uu Y 0 _, g8, nI_1]
      · rw [if_neg h2, if_neg h2]
        by_cases h3 : nI (c a) = 119
        · rw [if_pos h3, if_pos h3, qz_nm, qz_nm, qz_uu Y 0 _, g8, nI_1]
        · rw [if_neg h3, if_neg h3]
  rw [hro]
  clear hro
  generalize upd z 9 (nI (c a)) = z1 at g7 g8 g9 gf ⊢
  have hnum : ∀ (va vm : Int32) (a2 : Nat), va = nI a2 → a2 ≤ 1 → (c (a + 1) < 48 + a2 ∨ 57 < c (a + 1)) → ∃ z2 : Nat → Int32, (m_bi (f_X8_readsNumber N va vm (m_up Y 0 (upd z1 8 (nI (a + 1))))) fun r_19 X_19 => m_gd (r_19 = 0 ∨ r_19 = 1) <| some (r_19, X_19)) = some (0, m_up Y 0 z2) ∧ qt_fr z z2 ∧ z2 8 = nI (a + 1) := by
    intro va vm a2 e1 e2 e3
    rw [qt_num0 (z := upd z1 8 (nI (a + 1))) hT hY (by rw [qz_uo (by decide), g7]) qz_us (by omega) e1 e2 e3, qz_bi, qz_gd (Or.inl rfl)]
    exact ⟨_, rfl, fun s hs => by rw [qz_uo (by omega), qz_uo (by omega), gf s (by omega)], by rw [qz_uo (by decide), qz_us]⟩
  by_cases h43 : c a = 43
  · have hal : a < l := qt_lt hT (by omega)
    by_cases hd : 49 ≤ c (a + 1) ∧ c (a + 1) ≤ 57
    · obtain ⟨m, q, hn⟩ := qt_n_ex (c := c) (q := a + 1) 99 (by omega) hd.2
      exact Or.inl ⟨q, 3, m, 0, 0, Or.inr (Or.inl ⟨h43, rfl, hd.1, hn⟩)⟩
    · obtain ⟨z2, f1, f2, f3⟩ := hnum 1 99 1 rfl (by omega) (by omega)
      rw [if_pos (show nI (c a) = 43 from by rw [h43]; rfl)]
      exact Or.inr ⟨a + 1, z2, by omega, f1, f2, f3, qt_to_s hT hX hal (by decide) (qt_a0_p hca h43) (qt_to_f hT hX (by omega) (by decide) (qt_a7_w (hT.2.1 _) (by omega)))⟩
  rw [if_neg (show ¬ nI (c a) = 43 from by rw [qt_e43 hca]; exact h43)]
  by_cases h102 : c a = 102
  · have hal : a < l := qt_lt hT (by omega)
    by_cases hd : 48 ≤ c (a + 1) ∧ c (a + 1) ≤ 57
    · obtain ⟨m, q, hn⟩ := qt_n_ex (c := c) (q := a + 1) 11 (by omega) hd.2
      exact Or.inl ⟨q, 1, m, 0, 0, Or.inr (Or.inr (Or.inl ⟨h102, rfl, hn⟩))⟩
    · obtain ⟨z2, f1, f2, f3⟩ := hnum 0 11 0 rfl (by omega) (by omega)
      rw [if_pos (show nI (c a) = 102 from by rw [h102]; rfl)]
      exact Or.inr ⟨a + 1, z2, by omega, f1, f2, f3, qt_to_s hT hX hal (by decide) (qt_a0_f hca (Or.inl h102)) (qt_to_f hT hX (by omega) (by decide) (qt_a5_w (hT.2.1 _) (by omega)))⟩
  rw [if_neg (show ¬ nI (c a) = 102 from by rw [qt_e102 hca]; exact h102)]
  by_cases h119 : c a = 119
  · have hal : a < l := qt_lt hT (by omega)
    by_cases hd : 48 ≤ c (a + 1) ∧ c (a + 1) ≤ 57
    · obtain ⟨m, q, hn⟩ := qt_n_ex (c := c) (q := a + 1) 11 (by omega) hd.2
      exact Or.inl ⟨q, 2, m, 0, 0, Or.inr (Or.inr (Or.inr (Or.inl ⟨h119, rfl, hn⟩)))⟩
    · obtain ⟨z2, f1, f2, f3⟩ := hnum 0 11 0 rfl (by omega) (by omega)
      rw [if_pos (show nI (c a) = 119 from by rw [h119]; rfl)]
      exact Or.inr ⟨a + 1, z2, by omega, f1, f2, f3, qt_to_s hT hX hal (by decide) (qt_a0_f hca (Or.inr h119)) (qt_to_f hT hX (by omega) (by decide) (qt_a5_w (hT.2.1 _) (by omega)))⟩
  rw [if_neg (show ¬ nI (c a) = 119 from by rw [qt_e119 hca]; exact h119)]
  unfold f_X8_readsSubmit
  by_cases hd : 48 ≤ c a ∧ c a ≤ 57
  · obtain ⟨m, b, hn⟩ := qt_n_ex (c := c) (q := a) 11 hd.1 hd.2
    have hq2 := qt_n_q hn
    obtain ⟨s, s1, s2, s3, s4, s5⟩ := qt_na (N := N) hT hX hn
    obtain ⟨z2, f1, f2, f3, f4⟩ := qt_num (N := N) (va := 0) (vm := 11) (m := 11) (a := 0) hT hY g7 g8 (by omega) rfl rfl (by omega) (by omega) hn
    have f7 : z2 7 = nI l := by rw [f2 7 (by decide) (by decide), g7]
    rw [f1, qz_bi, if_neg qz_10]
    by_cases hb : c b = 58
    · have hbl : b < l := qt_lt hT (by omega)
      by_cases hr : 49 ≤ c (b + 1) ∧ c (b + 1) ≤ 56
      · by_cases hx : c (b + 2) = 33
        · exact Or.inl ⟨b + 3, 0, m, _, 1, Or.inr (Or.inr (Or.inr (Or.inr ⟨rfl, b, hn, hb, hr.1, hr.2, rfl, Or.inl ⟨hx, rfl, rfl⟩⟩)))⟩
        · exact Or.inl ⟨b + 2, 0, m, _, 0, Or.inr (Or.inr (Or.inr (Or.inr ⟨rfl, b, hn, hb, hr.1, hr.2, rfl, Or.inr ⟨hx, rfl, rfl⟩⟩)))⟩
      · have i7 : upd z2 8 (nI (b + 1)) 7 = nI l := by rw [qz_uo (by decide), f7]
        have i8 : upd z2 8 (nI (b + 1)) 8 = nI (b + 1) := qz_us
        have i_f : ∀ s : Nat, s < 8 → upd z2 8 (nI (b + 1)) s = z s := fun s hs => by rw [qz_uo (by omega), f2 s (by omega) (by omega), gf s (by omega)]
        rw [qt_takes1 (v := 58) (k := 58) hT hY f7 f3 (by omega) rfl hb, qz_bi, if_neg qz_10]
        generalize upd z2 8 (nI (b + 1)) = z3 at i7 i8 i_f ⊢
        rw [qt_next hT hY i7 i8 (by omega), qz_bi, qz_nm, qz_nm, qz_up Y 0 z3, qz_uu Y 0 z3, qz_up Y 0 (upd z3 11 (nI (c (b + 1)) - 48)), qz_us, qt_wi0 (va := 1) (vb := 8) (a := 1) (b := 8) rfl rfl (hT.2.1 _) (by omega) (by omega) (by omega), qz_bi, if_pos rfl, qz_bi, qz_gd (Or.inl rfl)]
        exact Or.inr ⟨b + 1, _, by omega, rfl, fun s hs => by rw [qz_uo (by omega), i_f s hs], by rw [qz_uo (by decide), i8], s3 _ (qt_to_s hT hX hbl (by decide) (s5 hb) (qt_to_f hT hX (by omega) (by decide) (qt_a3_w (hT.2.1 _) (by omega))))⟩
    · rw [qt_takes0 (v := 58) (k := 58) hT hY f7 f3 (by omega) rfl (by omega) hb, qz_bi, if_pos rfl, qz_bi, qz_gd (Or.inl rfl)]
      exact Or.inr ⟨b, _, s2, rfl, fun s hs => by rw [qz_uo (by omega), f2 s (by omega) (by omega), gf s (by omega)], qz_us, s3 _ (qt_to_f hT hX s2 (by rcases s1 with rfl | rfl <;> decide) (s4 hb))⟩
  · rw [qt_num0 (va := 0) (a := 0) hT hY g7 g8 (by omega) rfl (by omega) (by omega), qz_bi, if_pos rfl, qz_bi, qz_gd (Or.inl rfl)]
    exact Or.inr ⟨a, _, ha, rfl, fun s hs => by rw [qz_uo (by omega), gf s (by omega)], by rw [qz_uo (by decide), g8], qt_to_f hT hX ha (by decide) (qt_a0_w hca ⟨by omega, h102, h119, h43, h42⟩)⟩
/-- the orders of a text without a fault, from a place on -/
def qt_ok (c : Nat → Nat) (l : Nat) : Nat → Nat → Prop
  | 0, _ => False
  | k + 1, a => ∃ q kd m r u : Nat, qt_o c a q kd m r u ∧ ((q = l ∧ k = 0) ∨ (c q = 59 ∧ qt_ok c l k (q + 1)))
theorem qt_ff (hT : qt_T c l) (hX : qt_X c l X) (hY : qt_Y c l Y) : ∀ (fuel a : Nat) (z : Nat → Int32), z 7 = nI l → z 8 = nI a → a ≤ l → l - a < fuel → ∃ (v : Int32) (z2 : Nat → Int32), f_X8_findFault_5 N fuel (m_up Y 0 z) = some (v, m_up Y 0 z2) ∧ qt_fr z z2 ∧ qt_to N l X 0 a v ∧ (v = -5 → ∃ k : Nat, qt_ok c l k a) := by
  intro fuel
  have hl := hT.1
  induction fuel with
  | zero => intro a z _ _ _ h; omega
  | succ F ih =>
    intro a z h7 h8 ha hF
    rw [f_X8_findFault_5]
    rcases qt_F (N := N) hT hX hY h7 h8 ha with ⟨q, k, m, r, u, ho⟩ | ⟨q, z2, f0, f1, f2, f3, f4⟩
    · obtain ⟨z2, f1, f2, f3, _⟩ := qt_M (N := N) hT hY h7 h8 ha ho
      obtain ⟨a1, a2, s, a3, a4, a5, a6⟩ := qt_A (N := N) hT hX ho
      have f7 : z2 7 = nI l := by rw [f2 7 (by decide), h7]
      rw [f1, qz_bi, if_neg qz_10, qz_up Y 0 z2, f3, f7]
      by_cases hq : q = l
      · rw [hq, if_pos rfl]
        exact ⟨-5, z2, rfl, f2, a4 _ (by rw [hq]; exact qt_to_c hT hX a3), fun _ => ⟨1, q, k, m, r, u, ho, Or.inl ⟨hq, rfl⟩⟩⟩
      · rw [if_neg (fun w => hq ((nI_eq (by omega) (by omega)).mp w))]
        by_cases h59 : c q = 59
        · rw [qt_takes1 (v := 59) (k := 59) hT hY f7 f3 (by omega) rfl h59, qz_bi, if_neg qz_10]
          obtain ⟨v, z3, t1, t2, t3, t4⟩ := ih (q + 1) (upd z2 8 (nI (q + 1))) (by rw [qz_uo (by decide), f7]) qz_us (by omega) (by omega)
          exact ⟨v, z3, t1, fun s hs => by rw [t2 s hs, qz_uo (by omega), f2 s hs], a4 _ (qt_to_s hT hX (by omega) (by decide) (a6 h59) t3), fun hv => by
            obtain ⟨k2, hk⟩ := t4 hv
            exact ⟨k2 + 1, q, k, m, r, u, ho, Or.inr ⟨h59, hk⟩⟩⟩
        · rw [qt_takes0 (v := 59) (k := 59) hT hY f7 f3 (by omega) rfl (by omega) h59, qz_bi, if_pos rfl, qz_up Y 0 _, qz_us]
          exact ⟨nI q, _, rfl, fun s hs => by rw [qz_uo (by omega), f2 s hs], a4 _ (qt_to_w hT hX (by omega) (a5 h59)), fun hv => absurd hv (qz_n5 (by omega))⟩
    · rw [f1, qz_bi, if_pos rfl, qz_up Y 0 z2, f3]
      exact ⟨nI q, z2, rfl, f2, f4, fun hv => absurd hv (qz_n5 (by omega))⟩
theorem qt_fault (hT : qt_T c l) (hX : qt_X c l X) (hY : qt_Y c l Y) (h7 : Y 0 7 = nI l) (hN : 200 ≤ N) : ∃ (v : Int32) (z2 : Nat → Int32), f_X5_firstFault N X = some (v, X) ∧ f_X8_findFault N Y = some (v, m_up Y 0 z2) ∧ qt_fr (Y 0) z2 ∧ (v = -5 → ∃ k : Nat, qt_ok c l k 0) := by
  have hl := hT.1
  obtain ⟨v, z2, f1, f2, f3, f4⟩ := qt_ff (N := N) hT hX hY N 0 (upd (Y 0) 8 0) (by rw [qz_uo (by decide), h7]) qz_us (by omega) (by omega)
  refine ⟨v, z2, f3 N (by omega), ?_, fun s hs => by rw [f2 s hs, qz_uo (by omega)], f4⟩
  unfold f_X8_findFault
  rw [qz_nm, f1]
/-- a reading leaves the relation -/
theorem qt_I_y {z2 : Nat → Int32} (hI : qz_I T X Y) (hf : qt_fr (Y 0) z2) : qz_I T X (m_up Y 0 z2) := by
  obtain ⟨hS, hs, ⟨o, h, a1, a2, a3, a4, a5, a6⟩, ⟨l, b1, b2, b3, b4⟩⟩ := hI
  refine ⟨?_, ?_, ⟨o, h, a1, a2, a3, a4, ?_, fun j hj => ?_⟩, ⟨l, b1, b2, ?_, fun q hq => ?_⟩⟩
  · rw [qz_un _ _ (by decide)]; exact hS
  · rcases hs with ⟨u1, u2⟩ | ⟨u1, u2, u3⟩
    · exact Or.inl ⟨u1, by rw [qz_up, hf 5 (by decide)]; exact u2⟩
    · exact Or.inr ⟨u1, by rw [qz_up, hf 5 (by decide)]; exact u2, by rw [qz_un _ _ (by decide)]; exact u3⟩
  · rw [qz_up, hf 3 (by decide)]; exact a5
  · rw [qz_un _ _ (by decide)]; exact a6 j hj
  · rw [qz_up, hf 7 (by decide)]; exact b3
  · rw [qz_un _ _ (show (5 : Nat) ≠ 0 by decide)]; exact b4 q hq
theorem qz_st_fault (hN : 200 ≤ N) : m_st_fault N qz_Inv := by
  intro i X Y _ hI
  have hI2 := hI
  obtain ⟨_, _, _, ⟨l, ht⟩⟩ := hI2
  obtain ⟨c, t1, t2, t3⟩ := qt_of_text ht
  obtain ⟨v, z2, f1, f2, f3, _⟩ := qt_fault t1 t2 t3 ht.2.2.1 hN
  unfold f_X7_fault f_X8_fault
  rw [f1, f2, qz_bi, qz_bi]
  exact ⟨v, X, _, rfl, rfl, qz_Inv_s (qt_I_y hI f3)⟩
end QTC
