-- the text, as codes of characters; the automaton: written by wip/gen/text1.py
section QTA
variable {X Y : XT} {N l q ch : Nat} {c : Nat → Nat} {z : Nat → Int32} {v s s2 : Int32}
def qt_T (c : Nat → Nat) (l : Nat) : Prop := l ≤ 80 ∧ (∀ q : Nat, c q < 127) ∧ (∀ q : Nat, q < l → 32 ≤ c q) ∧ (∀ q : Nat, l ≤ q → c q = 0)
def qt_X (c : Nat → Nat) (l : Nat) (X : XT) : Prop := X 129 1 = nI l ∧ ∀ q : Nat, q < l → X 130 q = nI (c q)
def qt_Y (c : Nat → Nat) (l : Nat) (Y : XT) : Prop := ∀ q : Nat, q < l → Y 5 q = nI (c q)
theorem qt_of_text (h : qz_text X Y l) : ∃ c : Nat → Nat, qt_T c l ∧ qt_X c l X ∧ qt_Y c l Y := by
  obtain ⟨h1, h2, h3, h4⟩ := h
  have hc : ∀ q : Nat, q < l → ∃ ch : Nat, 32 ≤ ch ∧ ch ≤ 126 ∧ Y 5 q = nI ch ∧ (Y 5 q).toNatClampNeg = ch := fun q hq => by
    obtain ⟨_, ch, a1, a2, a3⟩ := h4 q hq
    exact ⟨ch, a1, a2, a3, by rw [a3, nI_clamp (by omega)]⟩
  refine ⟨fun q => if q < l then (Y 5 q).toNatClampNeg else 0, ⟨h1, fun q => ?_, fun q hq => ?_, fun q hq => ?_⟩, ⟨h2, fun q hq => ?_⟩, fun q hq => ?_⟩
  · show (if q < l then (Y 5 q).toNatClampNeg else 0) < 127
    by_cases hq : q < l
    · obtain ⟨ch, a1, a2, _, a4⟩ := hc q hq
      rw [if_pos hq, a4]; omega
    · rw [if_neg hq]; omega
  · show 32 ≤ (if q < l then (Y 5 q).toNatClampNeg else 0)
    obtain ⟨ch, a1, a2, _, a4⟩ := hc q hq
    rw [if_pos hq, a4]; exact a1
  · show (if q < l then (Y 5 q).toNatClampNeg else 0) = 0
    rw [if_neg (by omega)]
  · show X 130 q = nI (if q < l then (Y 5 q).toNatClampNeg else 0)
    obtain ⟨ch, a1, a2, a3, a4⟩ := hc q hq
    rw [if_pos hq, a4, (h4 q hq).1, a3]
  · show Y 5 q = nI (if q < l then (Y 5 q).toNatClampNeg else 0)
    obtain ⟨ch, a1, a2, a3, a4⟩ := hc q hq
    rw [if_pos hq, a4, a3]
theorem qt_lt (hT : qt_T c l) (h : c q ≠ 0) : q < l := by
  apply Nat.lt_of_not_le
  intro u
  exact h (hT.2.2.2 q u)
theorem qt_chr (h : ch < 127) : vp_nar .char (nI ch) = nI ch := by
  have hch : ((nI ch).toUInt32 % 65536).toInt32 = nI ch := by
    rw [pk_char, pk_tn (by omega), Nat.mod_eq_of_lt (by omega)]
  have q := pk_vc (nI ch)
  rwa [hch] at q
theorem qt_char (hT : qt_T c l) (hX : qt_X c l X) (hq : q < 2 ^ 30) : f_X5_characterAt N (nI q) X = some (nI (c q), X) := by
  have hl := hT.1
  unfold f_X5_characterAt
  rw [if_neg (nI_pos (by omega)), hX.1]
  by_cases h : l ≤ q
  · rw [if_pos (nI_le h (by omega)), hT.2.2.2 q h, nI_0]
  · rw [if_neg (nI_ge (by omega) (by omega)), qz_gd (qz_in (by omega) (by omega)), nI_clamp (by omega), hX.2 q (by omega), qz_nm, qz_gd (qt_chr (hT.2.1 q))]
theorem qt_next (hT : qt_T c l) (hY : qt_Y c l Y) (h7 : z 7 = nI l) (h8 : z 8 = nI q) (hq : q < 2 ^ 30) : f_X8_nextCharacter N (m_up Y 0 z) = some (nI (c q), m_up Y 0 z) := by
  have hl := hT.1
  unfold f_X8_nextCharacter
  rw [qz_up, h7, h8]
  by_cases h : l ≤ q
  · rw [if_pos (nI_le h (by omega)), hT.2.2.2 q h, nI_0]
  · rw [if_neg (nI_ge (by omega) (by omega)), qz_gd (qz_in (by omega) (by omega)), nI_clamp (by omega), qz_un _ _ (show (5 : Nat) ≠ 0 by decide), hY q (by omega), qz_nm]
theorem qt_e33 (h : ch < 127) : (nI ch = (33 : Int32)) = (ch = 33) := propext (by rw [show (33 : Int32) = nI 33 from rfl]; exact nI_eq (by omega) (by omega))
theorem qt_e42 (h : ch < 127) : (nI ch = (42 : Int32)) = (ch = 42) := propext (by rw [show (42 : Int32) = nI 42 from rfl]; exact nI_eq (by omega) (by omega))
theorem qt_e43 (h : ch < 127) : (nI ch = (43 : Int32)) = (ch = 43) := propext (by rw [show (43 : Int32) = nI 43 from rfl]; exact nI_eq (by omega) (by omega))
theorem qt_e48 (h : ch < 127) : (nI ch = (48 : Int32)) = (ch = 48) := propext (by rw [show (48 : Int32) = nI 48 from rfl]; exact nI_eq (by omega) (by omega))
theorem qt_e49 (h : ch < 127) : (nI ch = (49 : Int32)) = (ch = 49) := propext (by rw [show (49 : Int32) = nI 49 from rfl]; exact nI_eq (by omega) (by omega))
theorem qt_e58 (h : ch < 127) : (nI ch = (58 : Int32)) = (ch = 58) := propext (by rw [show (58 : Int32) = nI 58 from rfl]; exact nI_eq (by omega) (by omega))
theorem qt_e59 (h : ch < 127) : (nI ch = (59 : Int32)) = (ch = 59) := propext (by rw [show (59 : Int32) = nI 59 from rfl]; exact nI_eq (by omega) (by omega))
theorem qt_e102 (h : ch < 127) : (nI ch = (102 : Int32)) = (ch = 102) := propext (by rw [show (102 : Int32) = nI 102 from rfl]; exact nI_eq (by omega) (by omega))
theorem qt_e119 (h : ch < 127) : (nI ch = (119 : Int32)) = (ch = 119) := propext (by rw [show (119 : Int32) = nI 119 from rfl]; exact nI_eq (by omega) (by omega))
theorem qt_l48 (h : ch < 127) : (nI ch < (48 : Int32)) = (ch < 48) := propext (by rw [show (48 : Int32) = nI 48 from rfl]; exact nI_ltI (by omega) (by omega))
theorem qt_l49 (h : ch < 127) : (nI ch < (49 : Int32)) = (ch < 49) := propext (by rw [show (49 : Int32) = nI 49 from rfl]; exact nI_ltI (by omega) (by omega))
theorem qt_g56 (h : ch < 127) : ((56 : Int32) < nI ch) = (56 < ch) := propext (by rw [show (56 : Int32) = nI 56 from rfl]; exact nI_ltI (by omega) (by omega))
theorem qt_g57 (h : ch < 127) : ((57 : Int32) < nI ch) = (57 < ch) := propext (by rw [show (57 : Int32) = nI 57 from rfl]; exact nI_ltI (by omega) (by omega))
theorem qt_s0_1 : ((0 : Int32) = 1) = False := eq_false (by decide)
theorem qt_s0_2 : ((0 : Int32) = 2) = False := eq_false (by decide)
theorem qt_s0_3 : ((0 : Int32) = 3) = False := eq_false (by decide)
theorem qt_s0_4 : ((0 : Int32) = 4) = False := eq_false (by decide)
theorem qt_s0_5 : ((0 : Int32) = 5) = False := eq_false (by decide)
theorem qt_s0_6 : ((0 : Int32) = 6) = False := eq_false (by decide)
theorem qt_s0_7 : ((0 : Int32) = 7) = False := eq_false (by decide)
theorem qt_s0_8 : ((0 : Int32) = 8) = False := eq_false (by decide)
theorem qt_s0_9 : ((0 : Int32) = 9) = False := eq_false (by decide)
theorem qt_s1_0 : ((1 : Int32) = 0) = False := eq_false (by decide)
theorem qt_s1_2 : ((1 : Int32) = 2) = False := eq_false (by decide)
theorem qt_s1_3 : ((1 : Int32) = 3) = False := eq_false (by decide)
theorem qt_s1_4 : ((1 : Int32) = 4) = False := eq_false (by decide)
theorem qt_s1_5 : ((1 : Int32) = 5) = False := eq_false (by decide)
theorem qt_s1_6 : ((1 : Int32) = 6) = False := eq_false (by decide)
theorem qt_s1_7 : ((1 : Int32) = 7) = False := eq_false (by decide)
theorem qt_s1_8 : ((1 : Int32) = 8) = False := eq_false (by decide)
theorem qt_s1_9 : ((1 : Int32) = 9) = False := eq_false (by decide)
theorem qt_s2_0 : ((2 : Int32) = 0) = False := eq_false (by decide)
theorem qt_s2_1 : ((2 : Int32) = 1) = False := eq_false (by decide)
theorem qt_s2_3 : ((2 : Int32) = 3) = False := eq_false (by decide)
theorem qt_s2_4 : ((2 : Int32) = 4) = False := eq_false (by decide)
theorem qt_s2_5 : ((2 : Int32) = 5) = False := eq_false (by decide)
theorem qt_s2_6 : ((2 : Int32) = 6) = False := eq_false (by decide)
theorem qt_s2_7 : ((2 : Int32) = 7) = False := eq_false (by decide)
theorem qt_s2_8 : ((2 : Int32) = 8) = False := eq_false (by decide)
theorem qt_s2_9 : ((2 : Int32) = 9) = False := eq_false (by decide)
theorem qt_s3_0 : ((3 : Int32) = 0) = False := eq_false (by decide)
theorem qt_s3_1 : ((3 : Int32) = 1) = False := eq_false (by decide)
theorem qt_s3_2 : ((3 : Int32) = 2) = False := eq_false (by decide)
theorem qt_s3_4 : ((3 : Int32) = 4) = False := eq_false (by decide)
theorem qt_s3_5 : ((3 : Int32) = 5) = False := eq_false (by decide)
theorem qt_s3_6 : ((3 : Int32) = 6) = False := eq_false (by decide)
theorem qt_s3_7 : ((3 : Int32) = 7) = False := eq_false (by decide)
theorem qt_s3_8 : ((3 : Int32) = 8) = False := eq_false (by decide)
theorem qt_s3_9 : ((3 : Int32) = 9) = False := eq_false (by decide)
theorem qt_s4_0 : ((4 : Int32) = 0) = False := eq_false (by decide)
theorem qt_s4_1 : ((4 : Int32) = 1) = False := eq_false (by decide)
theorem qt_s4_2 : ((4 : Int32) = 2) = False := eq_false (by decide)
theorem qt_s4_3 : ((4 : Int32) = 3) = False := eq_false (by decide)
theorem qt_s4_5 : ((4 : Int32) = 5) = False := eq_false (by decide)
theorem qt_s4_6 : ((4 : Int32) = 6) = False := eq_false (by decide)
theorem qt_s4_7 : ((4 : Int32) = 7) = False := eq_false (by decide)
theorem qt_s4_8 : ((4 : Int32) = 8) = False := eq_false (by decide)
theorem qt_s4_9 : ((4 : Int32) = 9) = False := eq_false (by decide)
theorem qt_s5_0 : ((5 : Int32) = 0) = False := eq_false (by decide)
theorem qt_s5_1 : ((5 : Int32) = 1) = False := eq_false (by decide)
theorem qt_s5_2 : ((5 : Int32) = 2) = False := eq_false (by decide)
theorem qt_s5_3 : ((5 : Int32) = 3) = False := eq_false (by decide)
theorem qt_s5_4 : ((5 : Int32) = 4) = False := eq_false (by decide)
theorem qt_s5_6 : ((5 : Int32) = 6) = False := eq_false (by decide)
theorem qt_s5_7 : ((5 : Int32) = 7) = False := eq_false (by decide)
theorem qt_s5_8 : ((5 : Int32) = 8) = False := eq_false (by decide)
theorem qt_s5_9 : ((5 : Int32) = 9) = False := eq_false (by decide)
theorem qt_s6_0 : ((6 : Int32) = 0) = False := eq_false (by decide)
theorem qt_s6_1 : ((6 : Int32) = 1) = False := eq_false (by decide)
theorem qt_s6_2 : ((6 : Int32) = 2) = False := eq_false (by decide)
theorem qt_s6_3 : ((6 : Int32) = 3) = False := eq_false (by decide)
theorem qt_s6_4 : ((6 : Int32) = 4) = False := eq_false (by decide)
theorem qt_s6_5 : ((6 : Int32) = 5) = False := eq_false (by decide)
theorem qt_s6_7 : ((6 : Int32) = 7) = False := eq_false (by decide)
theorem qt_s6_8 : ((6 : Int32) = 8) = False := eq_false (by decide)
theorem qt_s6_9 : ((6 : Int32) = 9) = False := eq_false (by decide)
theorem qt_s7_0 : ((7 : Int32) = 0) = False := eq_false (by decide)
theorem qt_s7_1 : ((7 : Int32) = 1) = False := eq_false (by decide)
theorem qt_s7_2 : ((7 : Int32) = 2) = False := eq_false (by decide)
theorem qt_s7_3 : ((7 : Int32) = 3) = False := eq_false (by decide)
theorem qt_s7_4 : ((7 : Int32) = 4) = False := eq_false (by decide)
theorem qt_s7_5 : ((7 : Int32) = 5) = False := eq_false (by decide)
theorem qt_s7_6 : ((7 : Int32) = 6) = False := eq_false (by decide)
theorem qt_s7_8 : ((7 : Int32) = 8) = False := eq_false (by decide)
theorem qt_s7_9 : ((7 : Int32) = 9) = False := eq_false (by decide)
theorem qt_s8_0 : ((8 : Int32) = 0) = False := eq_false (by decide)
theorem qt_s8_1 : ((8 : Int32) = 1) = False := eq_false (by decide)
theorem qt_s8_2 : ((8 : Int32) = 2) = False := eq_false (by decide)
theorem qt_s8_3 : ((8 : Int32) = 3) = False := eq_false (by decide)
theorem qt_s8_4 : ((8 : Int32) = 4) = False := eq_false (by decide)
theorem qt_s8_5 : ((8 : Int32) = 5) = False := eq_false (by decide)
theorem qt_s8_6 : ((8 : Int32) = 6) = False := eq_false (by decide)
theorem qt_s8_7 : ((8 : Int32) = 7) = False := eq_false (by decide)
theorem qt_s8_9 : ((8 : Int32) = 9) = False := eq_false (by decide)
theorem qt_s9_0 : ((9 : Int32) = 0) = False := eq_false (by decide)
theorem qt_s9_1 : ((9 : Int32) = 1) = False := eq_false (by decide)
theorem qt_s9_2 : ((9 : Int32) = 2) = False := eq_false (by decide)
theorem qt_s9_3 : ((9 : Int32) = 3) = False := eq_false (by decide)
theorem qt_s9_4 : ((9 : Int32) = 4) = False := eq_false (by decide)
theorem qt_s9_5 : ((9 : Int32) = 5) = False := eq_false (by decide)
theorem qt_s9_6 : ((9 : Int32) = 6) = False := eq_false (by decide)
theorem qt_s9_7 : ((9 : Int32) = 7) = False := eq_false (by decide)
theorem qt_s9_8 : ((9 : Int32) = 8) = False := eq_false (by decide)
theorem qt_a0_49 (h : ch < 127) (hc : ch = 49) : f_X5_after N 0 (nI ch) X = some (1, X) := by
  simp (disch := omega) only [f_X5_after, f_X5_afterFirst, f_X5_isDigit, f_X5_isComplete, qt_e33 h, qt_e42 h, qt_e43 h, qt_e48 h, qt_e49 h, qt_e58 h, qt_e59 h, qt_e102 h, qt_e119 h, qt_l48 h, qt_l49 h, qt_g56 h, qt_g57 h, qt_s0_1, qt_s0_2, qt_s0_3, qt_s0_4, qt_s0_5, qt_s0_6, qt_s0_7, qt_s0_8, qt_s0_9, if_pos, if_neg, if_true, if_false, qz_bi, qz_10]
theorem qt_a0_d (h : ch < 127) (hc : 48 ≤ ch ∧ ch ≤ 57 ∧ ch ≠ 49) : f_X5_after N 0 (nI ch) X = some (2, X) := by
  simp (disch := omega) only [f_X5_after, f_X5_afterFirst, f_X5_isDigit, f_X5_isComplete, qt_e33 h, qt_e42 h, qt_e43 h, qt_e48 h, qt_e49 h, qt_e58 h, qt_e59 h, qt_e102 h, qt_e119 h, qt_l48 h, qt_l49 h, qt_g56 h, qt_g57 h, qt_s0_1, qt_s0_2, qt_s0_3, qt_s0_4, qt_s0_5, qt_s0_6, qt_s0_7, qt_s0_8, qt_s0_9, if_pos, if_neg, if_true, if_false, qz_bi, qz_10]
theorem qt_a0_f (h : ch < 127) (hc : ch = 102 ∨ ch = 119) : f_X5_after N 0 (nI ch) X = some (5, X) := by
  rcases hc with hc | hc <;> simp (disch := omega) only [f_X5_after, f_X5_afterFirst, f_X5_isDigit, f_X5_isComplete, qt_e33 h, qt_e42 h, qt_e43 h, qt_e48 h, qt_e49 h, qt_e58 h, qt_e59 h, qt_e102 h, qt_e119 h, qt_l48 h, qt_l49 h, qt_g56 h, qt_g57 h, qt_s0_1, qt_s0_2, qt_s0_3, qt_s0_4, qt_s0_5, qt_s0_6, qt_s0_7, qt_s0_8, qt_s0_9, if_pos, if_neg, if_true, if_false, qz_bi, qz_10]
theorem qt_a0_p (h : ch < 127) (hc : ch = 43) : f_X5_after N 0 (nI ch) X = some (7, X) := by
  simp (disch := omega) only [f_X5_after, f_X5_afterFirst, f_X5_isDigit, f_X5_isComplete, qt_e33 h, qt_e42 h, qt_e43 h, qt_e48 h, qt_e49 h, qt_e58 h, qt_e59 h, qt_e102 h, qt_e119 h, qt_l48 h, qt_l49 h, qt_g56 h, qt_g57 h, qt_s0_1, qt_s0_2, qt_s0_3, qt_s0_4, qt_s0_5, qt_s0_6, qt_s0_7, qt_s0_8, qt_s0_9, if_pos, if_neg, if_true, if_false, qz_bi, qz_10]
theorem qt_a0_s (h : ch < 127) (hc : ch = 42) : f_X5_after N 0 (nI ch) X = some (9, X) := by
  simp (disch := omega) only [f_X5_after, f_X5_afterFirst, f_X5_isDigit, f_X5_isComplete, qt_e33 h, qt_e42 h, qt_e43 h, qt_e48 h, qt_e49 h, qt_e58 h, qt_e59 h, qt_e102 h, qt_e119 h, qt_l48 h, qt_l49 h, qt_g56 h, qt_g57 h, qt_s0_1, qt_s0_2, qt_s0_3, qt_s0_4, qt_s0_5, qt_s0_6, qt_s0_7, qt_s0_8, qt_s0_9, if_pos, if_neg, if_true, if_false, qz_bi, qz_10]
theorem qt_a0_w (h : ch < 127) (hc : (ch < 48 ∨ 57 < ch) ∧ ch ≠ 102 ∧ ch ≠ 119 ∧ ch ≠ 43 ∧ ch ≠ 42) : f_X5_after N 0 (nI ch) X = some (-1, X) := by
  obtain ⟨hc | hc, hc2⟩ := hc <;> by_cases h59 : ch = 59 <;> by_cases h48 : ch < 48 <;> simp (disch := omega) only [f_X5_after, f_X5_afterFirst, f_X5_isDigit, f_X5_isComplete, qt_e33 h, qt_e42 h, qt_e43 h, qt_e48 h, qt_e49 h, qt_e58 h, qt_e59 h, qt_e102 h, qt_e119 h, qt_l48 h, qt_l49 h, qt_g56 h, qt_g57 h, qt_s0_1, qt_s0_2, qt_s0_3, qt_s0_4, qt_s0_5, qt_s0_6, qt_s0_7, qt_s0_8, qt_s0_9, if_pos, if_neg, if_true, if_false, qz_bi, qz_10]
theorem qt_a1_c (h : ch < 127) (hc : ch = 58) : f_X5_after N 1 (nI ch) X = some (3, X) := by
  simp (disch := omega) only [f_X5_after, f_X5_afterFirst, f_X5_isDigit, f_X5_isComplete, qt_e33 h, qt_e42 h, qt_e43 h, qt_e48 h, qt_e49 h, qt_e58 h, qt_e59 h, qt_e102 h, qt_e119 h, qt_l48 h, qt_l49 h, qt_g56 h, qt_g57 h, qt_s1_0, qt_s1_2, qt_s1_3, qt_s1_4, qt_s1_5, qt_s1_6, qt_s1_7, qt_s1_8, qt_s1_9, if_pos, if_neg, if_true, if_false, qz_bi, qz_10]
theorem qt_a1_d (h : ch < 127) (hc : ch = 48 ∨ ch = 49) : f_X5_after N 1 (nI ch) X = some (2, X) := by
  rcases hc with hc | hc <;> simp (disch := omega) only [f_X5_after, f_X5_afterFirst, f_X5_isDigit, f_X5_isComplete, qt_e33 h, qt_e42 h, qt_e43 h, qt_e48 h, qt_e49 h, qt_e58 h, qt_e59 h, qt_e102 h, qt_e119 h, qt_l48 h, qt_l49 h, qt_g56 h, qt_g57 h, qt_s1_0, qt_s1_2, qt_s1_3, qt_s1_4, qt_s1_5, qt_s1_6, qt_s1_7, qt_s1_8, qt_s1_9, if_pos, if_neg, if_true, if_false, qz_bi, qz_10]
theorem qt_a1_w (h : ch < 127) (hc : ch ≠ 58 ∧ ch ≠ 48 ∧ ch ≠ 49) : f_X5_after N 1 (nI ch) X = some (-1, X) := by
  by_cases h59 : ch = 59 <;> by_cases h48 : ch < 48 <;> simp (disch := omega) only [f_X5_after, f_X5_afterFirst, f_X5_isDigit, f_X5_isComplete, qt_e33 h, qt_e42 h, qt_e43 h, qt_e48 h, qt_e49 h, qt_e58 h, qt_e59 h, qt_e102 h, qt_e119 h, qt_l48 h, qt_l49 h, qt_g56 h, qt_g57 h, qt_s1_0, qt_s1_2, qt_s1_3, qt_s1_4, qt_s1_5, qt_s1_6, qt_s1_7, qt_s1_8, qt_s1_9, if_pos, if_neg, if_true, if_false, qz_bi, qz_10]
theorem qt_a2_c (h : ch < 127) (hc : ch = 58) : f_X5_after N 2 (nI ch) X = some (3, X) := by
  simp (disch := omega) only [f_X5_after, f_X5_afterFirst, f_X5_isDigit, f_X5_isComplete, qt_e33 h, qt_e42 h, qt_e43 h, qt_e48 h, qt_e49 h, qt_e58 h, qt_e59 h, qt_e102 h, qt_e119 h, qt_l48 h, qt_l49 h, qt_g56 h, qt_g57 h, qt_s2_0, qt_s2_1, qt_s2_3, qt_s2_4, qt_s2_5, qt_s2_6, qt_s2_7, qt_s2_8, qt_s2_9, if_pos, if_neg, if_true, if_false, qz_bi, qz_10]
theorem qt_a2_w (h : ch < 127) (hc : ch ≠ 58) : f_X5_after N 2 (nI ch) X = some (-1, X) := by
  by_cases h59 : ch = 59 <;> by_cases h48 : ch < 48 <;> simp (disch := omega) only [f_X5_after, f_X5_afterFirst, f_X5_isDigit, f_X5_isComplete, qt_e33 h, qt_e42 h, qt_e43 h, qt_e48 h, qt_e49 h, qt_e58 h, qt_e59 h, qt_e102 h, qt_e119 h, qt_l48 h, qt_l49 h, qt_g56 h, qt_g57 h, qt_s2_0, qt_s2_1, qt_s2_3, qt_s2_4, qt_s2_5, qt_s2_6, qt_s2_7, qt_s2_8, qt_s2_9, if_pos, if_neg, if_true, if_false, qz_bi, qz_10]
theorem qt_a3_d (h : ch < 127) (hc : 49 ≤ ch ∧ ch ≤ 56) : f_X5_after N 3 (nI ch) X = some (4, X) := by
  simp (disch := omega) only [f_X5_after, f_X5_afterFirst, f_X5_isDigit, f_X5_isComplete, qt_e33 h, qt_e42 h, qt_e43 h, qt_e48 h, qt_e49 h, qt_e58 h, qt_e59 h, qt_e102 h, qt_e119 h, qt_l48 h, qt_l49 h, qt_g56 h, qt_g57 h, qt_s3_0, qt_s3_1, qt_s3_2, qt_s3_4, qt_s3_5, qt_s3_6, qt_s3_7, qt_s3_8, qt_s3_9, if_pos, if_neg, if_true, if_false, qz_bi, qz_10]
theorem qt_a3_w (h : ch < 127) (hc : ch < 49 ∨ 56 < ch) : f_X5_after N 3 (nI ch) X = some (-1, X) := by
  rcases hc with hc | hc <;> by_cases h59 : ch = 59 <;> by_cases h48 : ch < 48 <;> simp (disch := omega) only [f_X5_after, f_X5_afterFirst, f_X5_isDigit, f_X5_isComplete, qt_e33 h, qt_e42 h, qt_e43 h, qt_e48 h, qt_e49 h, qt_e58 h, qt_e59 h, qt_e102 h, qt_e119 h, qt_l48 h, qt_l49 h, qt_g56 h, qt_g57 h, qt_s3_0, qt_s3_1, qt_s3_2, qt_s3_4, qt_s3_5, qt_s3_6, qt_s3_7, qt_s3_8, qt_s3_9, if_pos, if_neg, if_true, if_false, qz_bi, qz_10]
theorem qt_a4_x (h : ch < 127) (hc : ch = 33) : f_X5_after N 4 (nI ch) X = some (9, X) := by
  simp (disch := omega) only [f_X5_after, f_X5_afterFirst, f_X5_isDigit, f_X5_isComplete, qt_e33 h, qt_e42 h, qt_e43 h, qt_e48 h, qt_e49 h, qt_e58 h, qt_e59 h, qt_e102 h, qt_e119 h, qt_l48 h, qt_l49 h, qt_g56 h, qt_g57 h, qt_s4_0, qt_s4_1, qt_s4_2, qt_s4_3, qt_s4_5, qt_s4_6, qt_s4_7, qt_s4_8, qt_s4_9, if_pos, if_neg, if_true, if_false, qz_bi, qz_10]
theorem qt_a4_e (h : ch < 127) (hc : ch = 59) : f_X5_after N 4 (nI ch) X = some (0, X) := by
  simp (disch := omega) only [f_X5_after, f_X5_afterFirst, f_X5_isDigit, f_X5_isComplete, qt_e33 h, qt_e42 h, qt_e43 h, qt_e48 h, qt_e49 h, qt_e58 h, qt_e59 h, qt_e102 h, qt_e119 h, qt_l48 h, qt_l49 h, qt_g56 h, qt_g57 h, qt_s4_0, qt_s4_1, qt_s4_2, qt_s4_3, qt_s4_5, qt_s4_6, qt_s4_7, qt_s4_8, qt_s4_9, if_pos, if_neg, if_true, if_false, qz_bi, qz_10]
theorem qt_a4_w (h : ch < 127) (hc : ch ≠ 33 ∧ ch ≠ 59) : f_X5_after N 4 (nI ch) X = some (-1, X) := by
  by_cases h59 : ch = 59 <;> by_cases h48 : ch < 48 <;> simp (disch := omega) only [f_X5_after, f_X5_afterFirst, f_X5_isDigit, f_X5_isComplete, qt_e33 h, qt_e42 h, qt_e43 h, qt_e48 h, qt_e49 h, qt_e58 h, qt_e59 h, qt_e102 h, qt_e119 h, qt_l48 h, qt_l49 h, qt_g56 h, qt_g57 h, qt_s4_0, qt_s4_1, qt_s4_2, qt_s4_3, qt_s4_5, qt_s4_6, qt_s4_7, qt_s4_8, qt_s4_9, if_pos, if_neg, if_true, if_false, qz_bi, qz_10]
theorem qt_a5_1 (h : ch < 127) (hc : ch = 49) : f_X5_after N 5 (nI ch) X = some (6, X) := by
  simp (disch := omega) only [f_X5_after, f_X5_afterFirst, f_X5_isDigit, f_X5_isComplete, qt_e33 h, qt_e42 h, qt_e43 h, qt_e48 h, qt_e49 h, qt_e58 h, qt_e59 h, qt_e102 h, qt_e119 h, qt_l48 h, qt_l49 h, qt_g56 h, qt_g57 h, qt_s5_0, qt_s5_1, qt_s5_2, qt_s5_3, qt_s5_4, qt_s5_6, qt_s5_7, qt_s5_8, qt_s5_9, if_pos, if_neg, if_true, if_false, qz_bi, qz_10]
theorem qt_a5_d (h : ch < 127) (hc : 48 ≤ ch ∧ ch ≤ 57 ∧ ch ≠ 49) : f_X5_after N 5 (nI ch) X = some (9, X) := by
  simp (disch := omega) only [f_X5_after, f_X5_afterFirst, f_X5_isDigit, f_X5_isComplete, qt_e33 h, qt_e42 h, qt_e43 h, qt_e48 h, qt_e49 h, qt_e58 h, qt_e59 h, qt_e102 h, qt_e119 h, qt_l48 h, qt_l49 h, qt_g56 h, qt_g57 h, qt_s5_0, qt_s5_1, qt_s5_2, qt_s5_3, qt_s5_4, qt_s5_6, qt_s5_7, qt_s5_8, qt_s5_9, if_pos, if_neg, if_true, if_false, qz_bi, qz_10]
theorem qt_a5_w (h : ch < 127) (hc : ch < 48 ∨ 57 < ch) : f_X5_after N 5 (nI ch) X = some (-1, X) := by
  rcases hc with hc | hc <;> by_cases h59 : ch = 59 <;> by_cases h48 : ch < 48 <;> simp (disch := omega) only [f_X5_after, f_X5_afterFirst, f_X5_isDigit, f_X5_isComplete, qt_e33 h, qt_e42 h, qt_e43 h, qt_e48 h, qt_e49 h, qt_e58 h, qt_e59 h, qt_e102 h, qt_e119 h, qt_l48 h, qt_l49 h, qt_g56 h, qt_g57 h, qt_s5_0, qt_s5_1, qt_s5_2, qt_s5_3, qt_s5_4, qt_s5_6, qt_s5_7, qt_s5_8, qt_s5_9, if_pos, if_neg, if_true, if_false, qz_bi, qz_10]
theorem qt_a6_d (h : ch < 127) (hc : ch = 48 ∨ ch = 49) : f_X5_after N 6 (nI ch) X = some (9, X) := by
  rcases hc with hc | hc <;> simp (disch := omega) only [f_X5_after, f_X5_afterFirst, f_X5_isDigit, f_X5_isComplete, qt_e33 h, qt_e42 h, qt_e43 h, qt_e48 h, qt_e49 h, qt_e58 h, qt_e59 h, qt_e102 h, qt_e119 h, qt_l48 h, qt_l49 h, qt_g56 h, qt_g57 h, qt_s6_0, qt_s6_1, qt_s6_2, qt_s6_3, qt_s6_4, qt_s6_5, qt_s6_7, qt_s6_8, qt_s6_9, if_pos, if_neg, if_true, if_false, qz_bi, qz_10]
theorem qt_a6_e (h : ch < 127) (hc : ch = 59) : f_X5_after N 6 (nI ch) X = some (0, X) := by
  simp (disch := omega) only [f_X5_after, f_X5_afterFirst, f_X5_isDigit, f_X5_isComplete, qt_e33 h, qt_e42 h, qt_e43 h, qt_e48 h, qt_e49 h, qt_e58 h, qt_e59 h, qt_e102 h, qt_e119 h, qt_l48 h, qt_l49 h, qt_g56 h, qt_g57 h, qt_s6_0, qt_s6_1, qt_s6_2, qt_s6_3, qt_s6_4, qt_s6_5, qt_s6_7, qt_s6_8, qt_s6_9, if_pos, if_neg, if_true, if_false, qz_bi, qz_10]
theorem qt_a6_w (h : ch < 127) (hc : ch ≠ 48 ∧ ch ≠ 49 ∧ ch ≠ 59) : f_X5_after N 6 (nI ch) X = some (-1, X) := by
  by_cases h59 : ch = 59 <;> by_cases h48 : ch < 48 <;> simp (disch := omega) only [f_X5_after, f_X5_afterFirst, f_X5_isDigit, f_X5_isComplete, qt_e33 h, qt_e42 h, qt_e43 h, qt_e48 h, qt_e49 h, qt_e58 h, qt_e59 h, qt_e102 h, qt_e119 h, qt_l48 h, qt_l49 h, qt_g56 h, qt_g57 h, qt_s6_0, qt_s6_1, qt_s6_2, qt_s6_3, qt_s6_4, qt_s6_5, qt_s6_7, qt_s6_8, qt_s6_9, if_pos, if_neg, if_true, if_false, qz_bi, qz_10]
theorem qt_a7_d (h : ch < 127) (hc : 49 ≤ ch ∧ ch ≤ 57) : f_X5_after N 7 (nI ch) X = some (8, X) := by
  simp (disch := omega) only [f_X5_after, f_X5_afterFirst, f_X5_isDigit, f_X5_isComplete, qt_e33 h, qt_e42 h, qt_e43 h, qt_e48 h, qt_e49 h, qt_e58 h, qt_e59 h, qt_e102 h, qt_e119 h, qt_l48 h, qt_l49 h, qt_g56 h, qt_g57 h, qt_s7_0, qt_s7_1, qt_s7_2, qt_s7_3, qt_s7_4, qt_s7_5, qt_s7_6, qt_s7_8, qt_s7_9, if_pos, if_neg, if_true, if_false, qz_bi, qz_10]
theorem qt_a7_w (h : ch < 127) (hc : ch < 49 ∨ 57 < ch) : f_X5_after N 7 (nI ch) X = some (-1, X) := by
  rcases hc with hc | hc <;> by_cases h59 : ch = 59 <;> by_cases h48 : ch < 48 <;> simp (disch := omega) only [f_X5_after, f_X5_afterFirst, f_X5_isDigit, f_X5_isComplete, qt_e33 h, qt_e42 h, qt_e43 h, qt_e48 h, qt_e49 h, qt_e58 h, qt_e59 h, qt_e102 h, qt_e119 h, qt_l48 h, qt_l49 h, qt_g56 h, qt_g57 h, qt_s7_0, qt_s7_1, qt_s7_2, qt_s7_3, qt_s7_4, qt_s7_5, qt_s7_6, qt_s7_8, qt_s7_9, if_pos, if_neg, if_true, if_false, qz_bi, qz_10]
theorem qt_a8_d (h : ch < 127) (hc : 48 ≤ ch ∧ ch ≤ 57) : f_X5_after N 8 (nI ch) X = some (9, X) := by
  simp (disch := omega) only [f_X5_after, f_X5_afterFirst, f_X5_isDigit, f_X5_isComplete, qt_e33 h, qt_e42 h, qt_e43 h, qt_e48 h, qt_e49 h, qt_e58 h, qt_e59 h, qt_e102 h, qt_e119 h, qt_l48 h, qt_l49 h, qt_g56 h, qt_g57 h, qt_s8_0, qt_s8_1, qt_s8_2, qt_s8_3, qt_s8_4, qt_s8_5, qt_s8_6, qt_s8_7, qt_s8_9, if_pos, if_neg, if_true, if_false, qz_bi, qz_10]
theorem qt_a8_e (h : ch < 127) (hc : ch = 59) : f_X5_after N 8 (nI ch) X = some (0, X) := by
  simp (disch := omega) only [f_X5_after, f_X5_afterFirst, f_X5_isDigit, f_X5_isComplete, qt_e33 h, qt_e42 h, qt_e43 h, qt_e48 h, qt_e49 h, qt_e58 h, qt_e59 h, qt_e102 h, qt_e119 h, qt_l48 h, qt_l49 h, qt_g56 h, qt_g57 h, qt_s8_0, qt_s8_1, qt_s8_2, qt_s8_3, qt_s8_4, qt_s8_5, qt_s8_6, qt_s8_7, qt_s8_9, if_pos, if_neg, if_true, if_false, qz_bi, qz_10]
theorem qt_a8_w (h : ch < 127) (hc : (ch < 48 ∨ 57 < ch) ∧ ch ≠ 59) : f_X5_after N 8 (nI ch) X = some (-1, X) := by
  obtain ⟨hc | hc, hc2⟩ := hc <;> by_cases h59 : ch = 59 <;> by_cases h48 : ch < 48 <;> simp (disch := omega) only [f_X5_after, f_X5_afterFirst, f_X5_isDigit, f_X5_isComplete, qt_e33 h, qt_e42 h, qt_e43 h, qt_e48 h, qt_e49 h, qt_e58 h, qt_e59 h, qt_e102 h, qt_e119 h, qt_l48 h, qt_l49 h, qt_g56 h, qt_g57 h, qt_s8_0, qt_s8_1, qt_s8_2, qt_s8_3, qt_s8_4, qt_s8_5, qt_s8_6, qt_s8_7, qt_s8_9, if_pos, if_neg, if_true, if_false, qz_bi, qz_10]
theorem qt_a9_e (h : ch < 127) (hc : ch = 59) : f_X5_after N 9 (nI ch) X = some (0, X) := by
  simp (disch := omega) only [f_X5_after, f_X5_afterFirst, f_X5_isDigit, f_X5_isComplete, qt_e33 h, qt_e42 h, qt_e43 h, qt_e48 h, qt_e49 h, qt_e58 h, qt_e59 h, qt_e102 h, qt_e119 h, qt_l48 h, qt_l49 h, qt_g56 h, qt_g57 h, qt_s9_0, qt_s9_1, qt_s9_2, qt_s9_3, qt_s9_4, qt_s9_5, qt_s9_6, qt_s9_7, qt_s9_8, if_pos, if_neg, if_true, if_false, qz_bi, qz_10]
theorem qt_a9_w (h : ch < 127) (hc : ch ≠ 59) : f_X5_after N 9 (nI ch) X = some (-1, X) := by
  by_cases h59 : ch = 59 <;> by_cases h48 : ch < 48 <;> simp (disch := omega) only [f_X5_after, f_X5_afterFirst, f_X5_isDigit, f_X5_isComplete, qt_e33 h, qt_e42 h, qt_e43 h, qt_e48 h, qt_e49 h, qt_e58 h, qt_e59 h, qt_e102 h, qt_e119 h, qt_l48 h, qt_l49 h, qt_g56 h, qt_g57 h, qt_s9_0, qt_s9_1, qt_s9_2, qt_s9_3, qt_s9_4, qt_s9_5, qt_s9_6, qt_s9_7, qt_s9_8, if_pos, if_neg, if_true, if_false, qz_bi, qz_10]
theorem qt_ic (hs : s = 4 ∨ s = 6 ∨ s = 8 ∨ s = 9) : f_X5_isComplete N s X = some (1, X) := by
  rcases hs with rfl | rfl | rfl | rfl <;> rfl
theorem qt_in (hs : s = 0 ∨ s = 1 ∨ s = 2 ∨ s = 3 ∨ s = 5 ∨ s = 7) : f_X5_isComplete N s X = some (0, X) := by
  rcases hs with rfl | rfl | rfl | rfl | rfl | rfl <;> rfl
/-- from a state at a place the automaton answers v -/
def qt_to (N l : Nat) (X : XT) (s : Int32) (q : Nat) (v : Int32) : Prop := ∀ F : Nat, l < F + q → f_X5_firstFault_4 N F s (nI q) X = some (v, X)
theorem qt_to_s (hT : qt_T c l) (hX : qt_X c l X) (hq : q < l) (hs : s2 ≠ -1) (ha : f_X5_after N s (nI (c q)) X = some (s2, X)) (h : qt_to N l X s2 (q + 1) v) : qt_to N l X s q v := by
  intro F hF
  have hl := hT.1
  obtain ⟨F2, rfl⟩ : ∃ F2, F = F2 + 1 := ⟨F - 1, by omega⟩
  rw [f_X5_firstFault_4, hX.1, if_neg (nI_ge (by omega) (by omega)), qt_char hT hX (by omega), qz_bi, ha, qz_bi, if_neg hs, qz_nm, nI_1]
  exact h F2 (by omega)
theorem qt_to_w (hT : qt_T c l) (hX : qt_X c l X) (hq : q < l) (ha : f_X5_after N s (nI (c q)) X = some (-1, X)) : qt_to N l X s q (nI q) := by
  intro F hF
  have hl := hT.1
  obtain ⟨F2, rfl⟩ : ∃ F2, F = F2 + 1 := ⟨F - 1, by omega⟩
  rw [f_X5_firstFault_4, hX.1, if_neg (nI_ge (by omega) (by omega)), qt_char hT hX (by omega), qz_bi, ha, qz_bi, if_pos rfl]
theorem qt_to_n (hT : qt_T c l) (hX : qt_X c l X) (hs : s = 0 ∨ s = 1 ∨ s = 2 ∨ s = 3 ∨ s = 5 ∨ s = 7) : qt_to N l X s l (nI l) := by
  intro F hF
  have hl := hT.1
  obtain ⟨F2, rfl⟩ : ∃ F2, F = F2 + 1 := ⟨F - 1, by omega⟩
  rw [f_X5_firstFault_4, hX.1, if_pos (nI_le (by omega) (by omega)), f_X5_firstFault_35, qt_in hs, qz_bi, if_pos rfl, hX.1]
theorem qt_to_c (hT : qt_T c l) (hX : qt_X c l X) (hs : s = 4 ∨ s = 6 ∨ s = 8 ∨ s = 9) : qt_to N l X s l (-5) := by
  intro F hF
  have hl := hT.1
  obtain ⟨F2, rfl⟩ : ∃ F2, F = F2 + 1 := ⟨F - 1, by omega⟩
  rw [f_X5_firstFault_4, hX.1, if_pos (nI_le (by omega) (by omega)), f_X5_firstFault_35, qt_ic hs, qz_bi, if_neg qz_10]
/-- wrong here, or the end of the text in a state that is not complete -/
theorem qt_to_f (hT : qt_T c l) (hX : qt_X c l X) (hq : q ≤ l) (hs : s = 0 ∨ s = 1 ∨ s = 2 ∨ s = 3 ∨ s = 5 ∨ s = 7) (ha : f_X5_after N s (nI (c q)) X = some (-1, X)) : qt_to N l X s q (nI q) := by
  by_cases h : q = l
  · subst h; exact qt_to_n hT hX hs
  · exact qt_to_w hT hX (by omega) ha
end QTA
