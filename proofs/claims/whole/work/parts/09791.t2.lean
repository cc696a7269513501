-- the text, the model's reader
section QTB
variable {X Y : XT} {N l q q2 ch a b k m m2 r : Nat} {c : Nat → Nat} {z : Nat → Int32} {v va vb vm : Int32}
theorem qt_sub (h : 48 ≤ ch) : nI ch - 48 = nI (ch - 48) := pk_sub (b := 48) h
theorem qt_wi0 (hva : va = nI a) (hvb : vb = nI b) (hc : ch < 127) (ha : a ≤ 200) (hb : b ≤ 200) (h : ch < 48 + a ∨ 48 + b < ch) : f_X8_within N (nI ch - 48) va vb X = some (0, X) := by
  subst hva hvb
  have e : (nI ch - 48).toInt = (ch : Int) - 48 := pk_sub_toInt (b := 48) (by omega) (by omega)
  unfold f_X8_within
  by_cases h1 : nI ch - 48 < nI a
  · rw [if_pos h1]
  · rw [if_neg h1, if_pos]
    rw [Int32.lt_iff_toInt_lt, e, nI_toInt (by omega)] at h1
    rw [Int32.lt_iff_toInt_lt, e, nI_toInt (by omega)]
    omega
theorem qt_wi1 (hva : va = nI a) (hvb : vb = nI b) (hb : b ≤ 200) (h1 : 48 + a ≤ ch) (h2 : ch ≤ 48 + b) : f_X8_within N (nI ch - 48) va vb X = some (1, X) := by
  subst hva hvb
  have e : (nI ch - 48).toInt = (ch : Int) - 48 := pk_sub_toInt (b := 48) (by omega) (by omega)
  unfold f_X8_within
  rw [if_neg, if_neg]
  · rw [Int32.lt_iff_toInt_lt, e, nI_toInt (by omega)]
    omega
  · rw [Int32.lt_iff_toInt_lt, e, nI_toInt (by omega)]
    omega
theorem qt_takes1 (hT : qt_T c l) (hY : qt_Y c l Y) (h7 : z 7 = nI l) (h8 : z 8 = nI q) (hq : q < 2 ^ 30) (hv : v = nI k) (h : c q = k) : f_X8_takes N v (m_up Y 0 z) = some (1, m_up Y 0 (upd z 8 (nI (q + 1)))) := by
  subst hv h
  unfold f_X8_takes f_X8_takes_13
  rw [qt_next hT hY h7 h8 hq, qz_bi, if_pos rfl, if_neg qz_10, qz_nm, qz_nm, qz_gd (Or.inr rfl), qz_up Y 0 z, qz_uu Y 0 z, h8, nI_1]
theorem qt_takes0 (hT : qt_T c l) (hY : qt_Y c l Y) (h7 : z 7 = nI l) (h8 : z 8 = nI q) (hq : q < 2 ^ 30) (hv : v = nI k) (hk : k < 2 ^ 30) (h : c q ≠ k) : f_X8_takes N v (m_up Y 0 z) = some (0, m_up Y 0 (upd z 8 (nI q))) := by
  subst hv
  have hc := hT.2.1 q
  have hne : ¬ nI (c q) = nI k := fun u => h ((nI_eq (by omega) (by omega)).mp u)
  unfold f_X8_takes f_X8_takes_13
  rw [qt_next hT hY h7 h8 hq, qz_bi, if_neg hne, if_pos rfl, qz_nm, qz_nm, qz_gd (Or.inl rfl), qz_up Y 0 z, qz_uu Y 0 z, h8, Int32.add_zero]
theorem qt_num0 (hT : qt_T c l) (hY : qt_Y c l Y) (h7 : z 7 = nI l) (h8 : z 8 = nI q) (hq : q < 2 ^ 30) (hva : va = nI a) (ha : a ≤ 1) (h : c q < 48 + a ∨ 57 < c q) : f_X8_readsNumber N va vm (m_up Y 0 z) = some (0, m_up Y 0 (upd z 10 (nI (c q) - 48))) := by
  unfold f_X8_readsNumber
  rw [qt_next hT hY h7 h8 hq, qz_bi, qz_nm, qz_nm, qz_up Y 0 z, qz_uu Y 0 z, qz_up Y 0 (upd z 10 (nI (c q) - 48)), qz_us, qt_wi0 (vb := 9) (b := 9) hva rfl (hT.2.1 q) (by omega) (by omega) (by omega), qz_bi, if_pos rfl]
/-- a number without a leading zero, up to a bound, and the place behind it -/
def qt_n (c : Nat → Nat) (most q m q2 : Nat) : Prop := 48 ≤ c q ∧ c q ≤ 57 ∧ ((q2 = q + 1 ∧ m = c q - 48 ∧ (c q = 48 ∨ c (q + 1) < 48 ∨ 57 < c (q + 1) ∨ most < 10 * (c q - 48) + (c (q + 1) - 48))) ∨ (q2 = q + 2 ∧ 49 ≤ c q ∧ 48 ≤ c (q + 1) ∧ c (q + 1) ≤ 57 ∧ m = 10 * (c q - 48) + (c (q + 1) - 48) ∧ m ≤ most))
theorem qt_n_ex (most : Nat) (h1 : 48 ≤ c q) (h2 : c q ≤ 57) : ∃ m q2 : Nat, qt_n c most q m q2 := by
  by_cases h : c q = 48 ∨ c (q + 1) < 48 ∨ 57 < c (q + 1) ∨ most < 10 * (c q - 48) + (c (q + 1) - 48)
  · exact ⟨_, _, h1, h2, Or.inl ⟨rfl, rfl, h⟩⟩
  · exact ⟨_, _, h1, h2, Or.inr ⟨rfl, by omega, by omega, by omega, rfl, by omega⟩⟩
theorem qt_num (hT : qt_T c l) (hY : qt_Y c l Y) (h7 : z 7 = nI l) (h8 : z 8 = nI q) (hq : q < 2 ^ 29) (hva : va = nI a) (hvm : vm = nI m) (hm : m ≤ 99) (ha : 48 + a ≤ c q) (hn : qt_n c m q m2 q2) : ∃ z2 : Nat → Int32, f_X8_readsNumber N va vm (m_up Y 0 z) = some (1, m_up Y 0 z2) ∧ (∀ s : Nat, s ≠ 8 → s ≠ 10 → z2 s = z s) ∧ z2 8 = nI q2 ∧ z2 10 = nI m2 := by
  subst hvm
  obtain ⟨n1, n2, n3⟩ := hn
  have e1 := qt_sub n1
  have hc1 := hT.2.1 (q + 1)
  have h17 : upd (upd z 10 (nI (c q - 48))) 8 (nI (q + 1)) 7 = nI l := by rw [qz_uo (by decide), qz_uo (by decide), h7]
  have h18 : upd (upd z 10 (nI (c q - 48))) 8 (nI (q + 1)) 8 = nI (q + 1) := qz_us
  have h110 : upd (upd z 10 (nI (c q - 48))) 8 (nI (q + 1)) 10 = nI (c q - 48) := by rw [qz_uo (by decide), qz_us]
  have hfr : ∀ s : Nat, s ≠ 8 → s ≠ 10 → upd (upd z 10 (nI (c q - 48))) 8 (nI (q + 1)) s = z s := fun s s1 s2 => by rw [qz_uo s1, qz_uo s2]
  unfold f_X8_readsNumber
  rw [qt_next hT hY h7 h8 (by omega), qz_bi, qz_nm, qz_nm, qz_up Y 0 z, qz_uu Y 0 z, qz_up Y 0 (upd z 10 (nI (c q) - 48)), qz_us, qt_wi1 (vb := 9) (b := 9) hva rfl (by omega) ha (by omega), qz_bi, if_neg qz_10, qz_nm, qz_nm, qz_up Y 0 (upd z 10 (nI (c q) - 48)), qz_uo (show (8 : Nat) ≠ 10 by decide), h8, nI_1, qz_uu Y 0 (upd z 10 (nI (c q) - 48)), e1]
  generalize upd (upd z 10 (nI (c q - 48))) 8 (nI (q + 1)) = z1 at h17 h18 h110 hfr ⊢
  rw [qt_next hT hY h17 h18 (by omega), qz_bi, qz_nm, qz_up Y 0 z1, h110]
  rcases n3 with ⟨rfl, rfl, g⟩ | ⟨rfl, g1, g2, g3, rfl, g5⟩
  · by_cases w0 : c q = 48
    · rw [w0, if_pos (show nI (48 - 48) ≤ 0 from by decide)]
      exact ⟨z1, rfl, hfr, h18, by rw [h110, w0]⟩
    · rw [if_neg (nI_nle (by omega) (by omega))]
      by_cases w1 : c (q + 1) < 48 ∨ 57 < c (q + 1)
      · rw [qt_wi0 (va := 0) (vb := 9) (a := 0) (b := 9) rfl rfl hc1 (by omega) (by omega) (by omega), qz_bi, if_pos rfl]
        exact ⟨z1, rfl, hfr, h18, h110⟩
      · rw [qt_wi1 (va := 0) (vb := 9) (a := 0) (b := 9) rfl rfl (by omega) (by omega) (by omega), qz_bi, if_neg qz_10, qz_nm, qz_nm, qz_up Y 0 z1, h110, show (10 : Int32) = nI 10 from rfl, pk_mul, qt_sub (show 48 ≤ c (q + 1) by omega), nI_add, if_pos (nI_lt (by omega) (by omega))]
        exact ⟨z1, rfl, hfr, h18, h110⟩
  · rw [if_neg (nI_nle (by omega) (by omega)), qt_wi1 (va := 0) (vb := 9) (a := 0) (b := 9) rfl rfl (by omega) (by omega) (by omega), qz_bi, if_neg qz_10, qz_nm, qz_nm, qz_up Y 0 z1, h110, show (10 : Int32) = nI 10 from rfl, pk_mul, qt_sub (show 48 ≤ c (q + 1) by omega), nI_add, if_neg (nI_nlt (by omega) (by omega)), qz_nm, qz_nm, qz_nm, qz_nm, qz_nm, qz_uu Y 0 z1]
    rw [nI_add, qz_up Y 0 (upd z1 10 (nI (10 * (c q - 48) + (c (q + 1) - 48)))), qz_uo (show (8 : Nat) ≠ 10 by decide), h18, nI_1, qz_uu Y 0 _]
    exact ⟨_, rfl, fun s s1 s2 => by rw [qz_uo s1, qz_uo s2, hfr s s1 s2], qz_us, by rw [qz_uo (by decide), qz_us]⟩
/-- an order from a to q: its kind, number, records and urgency -/
def qt_o (c : Nat → Nat) (a q k m r u : Nat) : Prop :=
  (c a = 42 ∧ q = a + 1 ∧ k = 4) ∨ (c a = 43 ∧ k = 3 ∧ 49 ≤ c (a + 1) ∧ qt_n c 99 (a + 1) m q) ∨ (c a = 102 ∧ k = 1 ∧ qt_n c 11 (a + 1) m q) ∨ (c a = 119 ∧ k = 2 ∧ qt_n c 11 (a + 1) m q) ∨
  (k = 0 ∧ ∃ b : Nat, qt_n c 11 a m b ∧ c b = 58 ∧ 49 ≤ c (b + 1) ∧ c (b + 1) ≤ 56 ∧ r = c (b + 1) - 48 ∧ ((c (b + 2) = 33 ∧ u = 1 ∧ q = b + 3) ∨ (c (b + 2) ≠ 33 ∧ u = 0 ∧ q = b + 2)))
theorem qt_n_q (h : qt_n c m q m2 q2) : q < q2 ∧ q2 ≤ q + 2 := by
  obtain ⟨_, _, ⟨h, _⟩ | ⟨h, _⟩⟩ := h <;> omega
/-- what a reading leaves -/
def qt_fr (z z2 : Nat → Int32) : Prop := ∀ s : Nat, s < 8 → z2 s = z s
theorem qt_rsub (hT : qt_T c l) (hY : qt_Y c l Y) (h7 : z 7 = nI l) (h8 : z 8 = nI a) (ha : a ≤ l) {u : Nat} (hn : qt_n c 11 a m b) (hb : c b = 58) (r1 : 49 ≤ c (b + 1)) (r2 : c (b + 1) ≤ 56) (hq : (c (b + 2) = 33 ∧ u = 1 ∧ q = b + 3) ∨ (c (b + 2) ≠ 33 ∧ u = 0 ∧ q = b + 2)) : ∃ z2 : Nat → Int32, f_X8_readsSubmit N (m_up Y 0 z) = some (1, m_up Y 0 z2) ∧ (∀ s : Nat, s < 8 ∨ s = 9 → z2 s = z s) ∧ z2 8 = nI q ∧ z2 10 = nI m ∧ z2 11 = nI (c (b + 1) - 48) ∧ z2 12 = nI u := by
  have hl := hT.1
  have hq2 := qt_n_q hn
  obtain ⟨z1, f1, f2, f3, f4⟩ := qt_num (N := N) (va := 0) (vm := 11) (m := 11) (a := 0) hT hY h7 h8 (by omega) rfl rfl (by omega) (by obtain ⟨q, _⟩ := hn; omega) hn
  unfold f_X8_readsSubmit
  have g7 : upd z1 8 (nI (b + 1)) 7 = nI l := by rw [qz_uo (by decide), f2 7 (by decide) (by decide), h7]
  have g8 : upd z1 8 (nI (b + 1)) 8 = nI (b + 1) := qz_us
  rw [f1, qz_bi, if_neg qz_10, qt_takes1 (v := 58) (k := 58) hT hY (by rw [f2 7 (by decide) (by decide), h7]) f3 (by omega) rfl hb, qz_bi, if_neg qz_10]
  have gf : ∀ s : Nat, s ≠ 8 → s ≠ 10 → upd z1 8 (nI (b + 1)) s = z s := fun s s1 s2 => by rw [qz_uo s1, f2 s s1 s2]
  have g10 : upd z1 8 (nI (b + 1)) 10 = nI m := by rw [qz_uo (by decide), f4]
  generalize upd z1 8 (nI (b + 1)) = z3 at g7 g8 g10 gf ⊢
  rw [qt_next hT hY g7 g8 (by omega), qz_bi, qz_nm, qz_nm, qz_up Y 0 z3, qz_uu Y 0 z3, qz_up Y 0 (upd z3 11 (nI (c (b + 1)) - 48)), qz_us, qt_wi1 (va := 1) (vb := 8) (a := 1) (b := 8) rfl rfl (by omega) (by omega) (by omega), qz_bi, if_neg qz_10, qz_nm, qz_nm, qz_up Y 0 (upd z3 11 (nI (c (b + 1)) - 48)), qz_uo (show (8 : Nat) ≠ 11 by decide), g8, nI_1, qz_uu Y 0 (upd z3 11 (nI (c (b + 1)) - 48)), qt_sub (show 48 ≤ c (b + 1) by omega)]
  have i7 : upd (upd z3 11 (nI (c (b + 1) - 48))) 8 (nI (b + 1 + 1)) 7 = nI l := by rw [qz_uo (by decide), qz_uo (by decide), g7]
  have i8 : upd (upd z3 11 (nI (c (b + 1) - 48))) 8 (nI (b + 1 + 1)) 8 = nI (b + 2) := qz_us
  have i11 : upd (upd z3 11 (nI (c (b + 1) - 48))) 8 (nI (b + 1 + 1)) 11 = nI (c (b + 1) - 48) := by rw [qz_uo (by decide), qz_us]
  have i10 : upd (upd z3 11 (nI (c (b + 1) - 48))) 8 (nI (b + 1 + 1)) 10 = nI m := by rw [qz_uo (by decide), qz_uo (by decide), g10]
  have i_f : ∀ s : Nat, s < 8 ∨ s = 9 → upd (upd z3 11 (nI (c (b + 1) - 48))) 8 (nI (b + 1 + 1)) s = z s := fun s hs => by rw [qz_uo (by omega), qz_uo (by omega), gf s (by omega) (by omega)]
  generalize upd (upd z3 11 (nI (c (b + 1) - 48))) 8 (nI (b + 1 + 1)) = z4 at i7 i8 i10 i11 i_f ⊢
  rcases hq with ⟨q1, rfl, rfl⟩ | ⟨q1, rfl, rfl⟩
  · rw [qt_takes1 (v := 33) (k := 33) hT hY i7 i8 (by omega) rfl q1, qz_bi, qz_gd (Or.inr rfl), qz_nm, qz_up Y 0 _, qz_uu Y 0 _]
    exact ⟨_, rfl, fun s hs => by rw [qz_uo (by omega), qz_uo (by omega), i_f s hs], by rw [qz_uo (by decide), qz_us], by rw [qz_uo (by decide), qz_uo (by decide), i10], by rw [qz_uo (by decide), qz_uo (by decide), i11], qz_us⟩
  · rw [qt_takes0 (v := 33) (k := 33) hT hY i7 i8 (by omega) rfl (by omega) q1, qz_bi, qz_gd (Or.inl rfl), qz_nm, qz_up Y 0 _, qz_uu Y 0 _]
    exact ⟨_, rfl, fun s hs => by rw [qz_uo (by omega), qz_uo (by omega), i_f s hs], by rw [qz_uo (by decide), qz_us], by rw [qz_uo (by decide), qz_uo (by decide), i10], by rw [qz_uo (by decide), qz_uo (by decide), i11], qz_us⟩
theorem qt_M {u : Nat} (hT : qt_T c l) (hY : qt_Y c l Y) (h7 : z 7 = nI l) (h8 : z 8 = nI a) (ha : a ≤ l) (ho : qt_o c a q k m r u) : ∃ z2 : Nat → Int32, f_X8_readsOrder N (m_up Y 0 z) = some (1, m_up Y 0 z2) ∧ qt_fr z z2 ∧ z2 8 = nI q ∧ z2 9 = nI (c a) ∧ (k ≠ 4 → z2 10 = nI m) ∧ (k = 0 → z2 11 = nI r ∧ z2 12 = nI u) := by
  have hl := hT.1
  have hca := hT.2.1 a
  have g7 : upd z 9 (nI (c a)) 7 = nI l := by rw [qz_uo (by decide), h7]
  have g8 : upd z 9 (nI (c a)) 8 = nI a := by rw [qz_uo (by decide), h8]
  have g9 : upd z 9 (nI (c a)) 9 = nI (c a) := qz_us
  have gf : ∀ s : Nat, s ≠ 9 → upd z 9 (nI (c a)) s = z s := fun s s1 => qz_uo s1
  unfold f_X8_readsOrder
  rw [qt_next hT hY h7 h8 (by omega), qz_bi, qz_nm, qz_up Y 0 z, qz_uu Y 0 z, qz_up Y 0 (upd z 9 (nI (c a))), g9]
  generalize upd z 9 (nI (c a)) = z1 at g7 g8 g9 gf ⊢
  have hnum : ∀ (va vm : Int32) (a2 most : Nat), va = nI a2 → vm = nI most → most ≤ 99 → 48 + a2 ≤ c (a + 1) → qt_n c most (a + 1) m q → ∃ z2 : Nat → Int32, (m_bi (f_X8_readsNumber N va vm (m_up Y 0 (upd z1 8 (nI (a + 1))))) fun r_19 X_19 => m_gd (r_19 = 0 ∨ r_19 = 1) <| some (r_19, X_19)) = some (1, m_up Y 0 z2) ∧ qt_fr z z2 ∧ z2 8 = nI q ∧ z2 9 = nI (c a) ∧ (k ≠ 4 → z2 10 = nI m) := by
    intro va vm a2 most e1 e2 e3 e4 e5
    obtain ⟨z2, f1, f2, f3, f4⟩ := qt_num (N := N) hT hY (z := upd z1 8 (nI (a + 1))) (by rw [qz_uo (by decide), g7]) qz_us (by omega) e1 e2 e3 e4 e5
    rw [f1, qz_bi, qz_gd (Or.inr rfl)]
    exact ⟨z2, rfl, fun s hs => by rw [f2 s (by omega) (by omega), qz_uo (by omega), gf s (by omega)], f3, by rw [f2 9 (by decide) (by decide), qz_uo (by decide), g9], fun _ => f4⟩
  rcases ho with ⟨o1, rfl, rfl⟩ | ⟨o1, rfl, o2, o3⟩ | ⟨o1, rfl, o2⟩ | ⟨o1, rfl, o2⟩ | ⟨rfl, b, o1, o2, o3, o4, rfl, o6⟩
  · rw [o1, if_pos (show nI 42 = 42 from rfl), qz_nm, qz_nm, qz_uu Y 0 z1, g8, nI_1]
    exact ⟨_, rfl, fun s hs => by rw [qz_uo (by omega), gf s (by omega)], qz_us, by rw [qz_uo (by decide), g9, o1], fun h => absurd rfl h, fun h => absurd h (by decide)⟩
  · rw [if_neg (show ¬ nI (c a) = 42 from by rw [o1]; decide), if_pos (show nI (c a) = 43 from by rw [o1]; rfl), qz_nm, qz_nm, qz_uu Y 0 z1, g8, nI_1]
    obtain ⟨z2, f1, f2, f3, f4, f5⟩ := hnum 1 99 1 99 rfl rfl (by omega) o2 o3
    exact ⟨z2, f1, f2, f3, f4, f5, fun h => absurd h (by decide)⟩
  · rw [if_neg (show ¬ nI (c a) = 42 from by rw [o1]; decide), if_neg (show ¬ nI (c a) = 43 from by rw [o1]; decide), if_pos (show nI (c a) = 102 from by rw [o1]; rfl), qz_nm, qz_nm, qz_uu Y 0 z1, g8, nI_1]
    obtain ⟨z2, f1, f2, f3, f4, f5⟩ := hnum 0 11 0 11 rfl rfl (by omega) (by obtain ⟨h, _⟩ := o2; omega) o2
    exact ⟨z2, f1, f2, f3, f4, f5, fun h => absurd h (by decide)⟩
  · rw [if_neg (show ¬ nI (c a) = 42 from by rw [o1]; decide), if_neg (show ¬ nI (c a) = 43 from by rw [o1]; decide), if_neg (show ¬ nI (c a) = 102 from by rw [o1]; decide), if_pos (show nI (c a) = 119 from by rw [o1]; rfl), qz_nm, qz_nm, qz_uu Y 0 z1, g8, nI_1]
    obtain ⟨z2, f1, f2, f3, f4, f5⟩ := hnum 0 11 0 11 rfl rfl (by omega) (by obtain ⟨h, _⟩ := o2; omega) o2
    exact ⟨z2, f1, f2, f3, f4, f5, fun h => absurd h (by decide)⟩
  · have hd : 48 ≤ c a ∧ c a ≤ 57 := by obtain ⟨h, h2, _⟩ := o1; exact ⟨h, h2⟩
    rw [if_neg (show ¬ nI (c a) = 42 from by rw [qt_e42 hca]; omega), if_neg (show ¬ nI (c a) = 43 from by rw [qt_e43 hca]; omega), if_neg (show ¬ nI (c a) = 102 from by rw [qt_e102 hca]; omega), if_neg (show ¬ nI (c a) = 119 from by rw [qt_e119 hca]; omega)]
    obtain ⟨z2, f1, f2, f3, f4, f5, f6⟩ := qt_rsub (N := N) hT hY g7 g8 ha o1 o2 o3 o4 o6
    rw [f1, qz_bi, qz_gd (Or.inr rfl)]
    exact ⟨z2, rfl, fun s hs => by rw [f2 s (Or.inl hs), gf s (by omega)], f3, by rw [f2 9 (Or.inr rfl), g9], fun _ => f4, fun _ => ⟨f5, f6⟩⟩
end QTB
