-- a crash
section QCR
variable {X Z : XT} {y : Nat → Int32} {N n p f e t b c0 k0 j0 T : Nat}
def qz_ls (c : Nat) (X : XT) : XT := if X 20 c = -5 then X else m_up (m_up X 5 (upd (X 5) (X 20 c).toNatClampNeg 5)) 20 (upd (X 20) c (-5))
def qz_lt (X : XT) : Nat → XT
  | 0 => X
  | c + 1 => qz_ls c (qz_lt X c)
theorem qz_lt_row {i : Nat} (h5 : i ≠ 5) (h20 : i ≠ 20) : ∀ c : Nat, qz_lt X c i = X i
  | 0 => rfl
  | c + 1 => by
    show qz_ls c (qz_lt X c) i = X i
    unfold qz_ls
    split
    · exact qz_lt_row h5 h20 c
    · rw [qz_un _ _ h20, qz_un _ _ h5]; exact qz_lt_row h5 h20 c
theorem qz_lt_20 : ∀ c i : Nat, qz_lt X c 20 i = if i < c then -5 else X 20 i
  | 0, i => by rw [if_neg (by omega)]; rfl
  | c + 1, i => by
    show qz_ls c (qz_lt X c) 20 i = _
    unfold qz_ls
    have ih := qz_lt_20 c
    by_cases h : qz_lt X c 20 c = -5
    · rw [if_pos h, ih]
      rw [ih, if_neg (by omega)] at h
      by_cases hi : i < c
      · rw [if_pos hi, if_pos (by omega)]
      · rw [if_neg hi]
        by_cases hic : i = c
        · rw [if_pos (by omega), hic, h]
        · rw [if_neg (by omega)]
    · rw [if_neg h, qz_up]
      by_cases hic : i = c
      · rw [hic, qz_us, if_pos (by omega)]
      · rw [qz_uo hic, ih]
        by_cases hi : i < c
        · rw [if_pos hi, if_pos (by omega)]
        · rw [if_neg hi, if_neg (by omega)]
theorem qz_lt_c (c : Nat) : qz_lt X c 20 c = X 20 c := by rw [qz_lt_20, if_neg (by omega)]
theorem qz_lt_5 : ∀ c k : Nat, ((∃ i : Nat, i < c ∧ ¬ X 20 i = -5 ∧ (X 20 i).toNatClampNeg = k) → qz_lt X c 5 k = 5) ∧ (¬ (∃ i : Nat, i < c ∧ ¬ X 20 i = -5 ∧ (X 20 i).toNatClampNeg = k) → qz_lt X c 5 k = X 5 k)
  | 0, k => ⟨fun ⟨i, q, _⟩ => absurd q (by omega), fun _ => rfl⟩
  | c + 1, k => by
    have ih := qz_lt_5 c k
    show ((∃ i : Nat, i < c + 1 ∧ ¬ X 20 i = -5 ∧ (X 20 i).toNatClampNeg = k) → qz_ls c (qz_lt X c) 5 k = 5) ∧ (¬ (∃ i : Nat, i < c + 1 ∧ ¬ X 20 i = -5 ∧ (X 20 i).toNatClampNeg = k) → qz_ls c (qz_lt X c) 5 k = X 5 k)
    unfold qz_ls
    rw [qz_lt_c]
    by_cases h : X 20 c = -5
    · rw [if_pos h]
      refine ⟨fun ⟨i, q1, q2, q3⟩ => ih.1 ⟨i, ?_, q2, q3⟩, fun q => ih.2 (fun ⟨i, q1, q2, q3⟩ => q ⟨i, by omega, q2, q3⟩)⟩
      have : i ≠ c := fun e1 => q2 (e1 ▸ h)
      omega
    · rw [if_neg h, qz_un _ _ (by decide), qz_up]
      by_cases hk : k = (X 20 c).toNatClampNeg
      · rw [hk, qz_us]
        exact ⟨fun _ => rfl, fun q => absurd ⟨c, by omega, h, rfl⟩ q⟩
      · rw [qz_uo hk]
        refine ⟨fun ⟨i, q1, q2, q3⟩ => ih.1 ⟨i, ?_, q2, q3⟩, fun q => ih.2 (fun ⟨i, q1, q2, q3⟩ => q ⟨i, by omega, q2, q3⟩)⟩
        have : i ≠ c := fun e1 => hk (by rw [← q3, e1])
        omega
theorem qz_lose_l (h18 : X 1 8 = nI n) (hn : n ≤ 150) (ho : ∀ c : Nat, c < 12 → X 20 c = -5 ∨ ∃ k : Nat, k < n ∧ X 20 c = nI k ∧ X 2 k = nI c) : ∀ fuel c : Nat, c ≤ 12 → 12 - c < fuel → f_X3_loseAll_4 N fuel (qz_sum (fun i => if X 20 i = -5 then 0 else 1) c) (nI c) (qz_lt X c) = f_X3_loseAll_41 N (qz_sum (fun i => if X 20 i = -5 then 0 else 1) 12) (qz_lt X 12) := by
  intro fuel
  induction fuel with
  | zero => intro c _ h; omega
  | succ F ih =>
    intro c hc hF
    rw [f_X3_loseAll_4, show (12 : Int32) = nI 12 from rfl]
    by_cases e1 : c = 12
    · subst e1
      rw [if_pos (nI_le (Nat.le_refl _) (by omega))]
    · rw [if_neg (nI_ge (by omega) (by omega)), qz_gd (qz_in (by omega) (by omega))]
      simp only [nI_clamp (show c < 2 ^ 31 by omega)]
      rw [qz_nm, qz_lt_c]
      have hi := ih (c + 1) (by omega) (by omega)
      have e2 : qz_sum (fun i => if X 20 i = -5 then 0 else 1) (c + 1) = qz_sum (fun i => if X 20 i = -5 then 0 else 1) c + (if X 20 c = -5 then 0 else 1) := rfl
      have e3 : qz_lt X (c + 1) = if X 20 c = -5 then qz_lt X c else m_up (m_up (qz_lt X c) 5 (upd (qz_lt X c 5) (X 20 c).toNatClampNeg 5)) 20 (upd (qz_lt X c 20) c (-5)) := by
        show qz_ls c (qz_lt X c) = _
        unfold qz_ls
        rw [qz_lt_c]
      rw [e2, e3] at hi
      rcases ho c (by omega) with h1 | ⟨k, hk, h1, h2⟩
      · rw [if_pos h1, qz_nm, nI_1]
        rw [if_pos h1, if_pos h1, Int32.add_zero] at hi
        exact hi
      · have h5 : ¬ X 20 c = -5 := by rw [h1]; exact qz_n5 (by omega)
        rw [if_neg h5, if_neg h5, h1, nI_clamp (by omega)] at hi
        rw [if_neg h5, qz_gd (qz_in (by omega) (by omega)), qz_nm, h1, qz_endCommit (n := n) (c0 := c) (by rw [qz_lt_row (by decide) (by decide)]; exact h18) hn hk (by rw [qz_lt_row (by decide) (by decide)]; exact h2) (by omega), qz_bv, qz_nm, qz_nm, nI_1]
        exact hi
/-- the queue is emptied -/
theorem qz_drop_l (p e : Nat) (he : e ≤ 150) (hp : p ≤ 150) : ∀ (d fuel i s : Nat) (X : XT), f + i + d = e → i + d = s → d < fuel → X 15 1 = nI (f + i) → X 15 2 = nI e → X 10 4 = nI p → (∀ q : Nat, f + i ≤ q → q < e → ∃ j : Nat, j < p ∧ X 16 q = nI j) →
    ∃ X2 : XT, f_X3_dropGroups_46 N fuel (nI s) (nI i) X = some X2 ∧ X2 15 1 = nI e ∧ (∀ q : Nat, q ≠ 1 → X2 15 q = X 15 q) ∧ (∀ q : Nat, q ≠ 11 → q ≠ 15 → X2 q = X q) ∧ (∀ j : Nat, j < 150 → ((∃ q : Nat, f + i ≤ q ∧ q < e ∧ X 16 q = nI j) → X2 11 j = 5) ∧ (¬ (∃ q : Nat, f + i ≤ q ∧ q < e ∧ X 16 q = nI j) → X2 11 j = X 11 j)) := by
  intro d
  induction d with
  | zero =>
    intro fuel i s X h1 h2 h3 h4 h5 h6 h7
    obtain ⟨F, rfl⟩ : ∃ F, fuel = F + 1 := ⟨fuel - 1, by omega⟩
    rw [f_X3_dropGroups_46, if_pos (nI_le (by omega) (by omega))]
    exact ⟨X, rfl, by rw [h4, show f + i = e by omega], fun _ _ => rfl, fun _ _ _ => rfl, fun j _ => ⟨fun ⟨q, q1, q2, _⟩ => absurd q2 (by omega), fun _ => rfl⟩⟩
  | succ d ih =>
    intro fuel i s X h1 h2 h3 h4 h5 h6 h7
    obtain ⟨F, rfl⟩ : ∃ F, fuel = F + 1 := ⟨fuel - 1, by omega⟩
    obtain ⟨j0, hj0, hq0⟩ := h7 (f + i) (Nat.le_refl _) (by omega)
    rw [f_X3_dropGroups_46, if_neg (nI_ge (by omega) (by omega))]
    unfold f_X4_takeFirst
    rw [h4, h5, if_pos (nI_lt (by omega) (by omega)), qz_gd (qz_in (by omega) (by omega)), nI_clamp (by omega), qz_nm, qz_nm, qz_nm, qz_bi, hq0, qz_setStateG (p := p) (by rw [qz_un _ _ (by decide)]; exact h6) hj0 hp, qz_bv, qz_nm, nI_1, nI_1, qz_un _ _ (show (11 : Nat) ≠ 15 by decide)]
    obtain ⟨X2, u1, u2, u3, u4, u5⟩ := ih F (i + 1) s (m_up (m_up X 15 (upd (X 15) 1 (nI (f + i + 1)))) 11 (upd (X 11) j0 5)) (by omega) (by omega) (by omega) (by rw [qz_un _ _ (by decide), qz_up, qz_us]; rfl) (by rw [qz_un _ _ (by decide), qz_up, qz_uo (by decide)]; exact h5) (by rw [qz_un _ _ (by decide), qz_un _ _ (by decide)]; exact h6) (by
      intro q q1 q2
      rw [qz_un _ _ (by decide), qz_un _ _ (by decide)]
      exact h7 q (by omega) q2)
    refine ⟨X2, u1, u2, fun q hq => ?_, fun q q1 q2 => ?_, fun j hj => ?_⟩
    · rw [u3 q hq, qz_un _ _ (by decide), qz_up, qz_uo hq]
    · rw [u4 q q1 q2, qz_un _ _ q1, qz_un _ _ q2]
    · have v := u5 j hj
      rw [qz_un _ _ (show (16 : Nat) ≠ 11 by decide), qz_un _ _ (show (16 : Nat) ≠ 15 by decide), qz_up] at v
      by_cases hx : ∃ q : Nat, f + (i + 1) ≤ q ∧ q < e ∧ X 16 q = nI j
      · refine ⟨fun _ => v.1 hx, fun q => absurd ?_ q⟩
        obtain ⟨q, q1, q2, q3⟩ := hx
        exact ⟨q, by omega, q2, q3⟩
      · have v2 := v.2 hx
        by_cases hj2 : j = j0
        · rw [hj2, qz_us] at v2
          exact ⟨fun _ => by rw [hj2]; exact v2, fun q => absurd ⟨f + i, Nat.le_refl _, by omega, by rw [hj2]; exact hq0⟩ q⟩
        · rw [qz_uo hj2] at v2
          refine ⟨fun ⟨q, q1, q2, q3⟩ => absurd ⟨q, ?_, q2, q3⟩ hx, fun _ => v2⟩
          have : q ≠ f + i := fun e1 => hj2 (by rw [e1, hq0, nI_eq (by omega) (by omega)] at q3; exact q3.symm)
          omega
-- the model
def qz_cr (y : Nat → Int32) (n j : Nat) : Nat → Int32 := fun a => if 16 ≤ a ∧ a < 1216 then (if (a - 16) % 8 = 3 ∧ (a - 16) / 8 < n ∧ ¬ 4 ≤ y a ∧ (y (a + 3)).toNatClampNeg < j then 5 else y a) else if 1216 ≤ a ∧ (a - 1216) % 4 = 0 ∧ (a - 1216) / 4 < j ∧ ¬ 4 ≤ y a then 5 else y a
theorem qz_cr_3 {j k : Nat} (hk : k < 150) : qz_cr y n j (16 + 8 * k + 3) = if k < n ∧ ¬ 4 ≤ y (16 + 8 * k + 3) ∧ (y (16 + 8 * k + 6)).toNatClampNeg < j then 5 else y (16 + 8 * k + 3) := by
  unfold qz_cr
  rw [if_pos (by omega), show (16 + 8 * k + 3 - 16) / 8 = k by omega]
  show (if (16 + 8 * k + 3 - 16) % 8 = 3 ∧ k < n ∧ ¬ 4 ≤ y (16 + 8 * k + 3) ∧ (y (16 + 8 * k + 6)).toNatClampNeg < j then 5 else y (16 + 8 * k + 3)) = _
  by_cases q : k < n ∧ ¬ 4 ≤ y (16 + 8 * k + 3) ∧ (y (16 + 8 * k + 6)).toNatClampNeg < j
  · rw [if_pos q, if_pos ⟨by omega, q⟩]
  · rw [if_neg q, if_neg (fun u => q u.2)]
theorem qz_cr_g {j i : Nat} : qz_cr y n j (1216 + 4 * i + 0) = if i < j ∧ ¬ 4 ≤ y (1216 + 4 * i + 0) then 5 else y (1216 + 4 * i + 0) := by
  unfold qz_cr
  rw [if_neg (by omega), show (1216 + 4 * i + 0 - 1216) / 4 = i by omega]
  by_cases q : i < j ∧ ¬ 4 ≤ y (1216 + 4 * i + 0)
  · rw [if_pos q, if_pos ⟨by omega, by omega, q⟩]
  · rw [if_neg q, if_neg (fun u => q u.2.2)]
theorem qz_cr_o {j a : Nat} (h : a < 16 ∨ (a < 1216 ∧ (a - 16) % 8 ≠ 3) ∨ (1216 ≤ a ∧ (a - 1216) % 4 ≠ 0)) : qz_cr y n j a = y a := by
  unfold qz_cr
  by_cases h1 : 16 ≤ a ∧ a < 1216
  · rw [if_pos h1, if_neg]
    rintro ⟨q, _⟩
    omega
  · rw [if_neg h1, if_neg]
    rintro ⟨q, q2, _⟩
    omega
theorem qz_cr_0 : qz_cr y n 0 = y := by
  funext a
  unfold qz_cr
  split
  · rw [if_neg (fun q => absurd q.2.2.2 (by omega))]
  · rw [if_neg (fun q => absurd q.2.2.1 (by omega))]
theorem qz_cr_s (h : qz_R X y n p f e t b) {j : Nat} (hj : j < p) : qz_cr y n (j + 1) = if 4 ≤ y (1216 + 4 * j + 0) then qz_cr y n j else upd (qz_turn (qz_cr y n j) n (nI j) 5) (1216 + 4 * j + 0) 5 := by
  have hp0 := (qzR_pn h).1
  have hn0 := qzR_nn h
  funext a
  by_cases h16 : a < 16
  · rw [qz_cr_o (by omega)]
    split
    · rw [qz_cr_o (by omega)]
    · rw [qz_uo (by omega), qz_turn_o (by omega), qz_cr_o (by omega)]
  by_cases h12 : 1216 ≤ a
  · by_cases h4 : (a - 1216) % 4 = 0
    · have ea : a = 1216 + 4 * ((a - 1216) / 4) + 0 := by omega
      generalize (a - 1216) / 4 = i at ea
      subst ea
      rw [qz_cr_g]
      by_cases hs : 4 ≤ y (1216 + 4 * j + 0)
      · rw [if_pos hs, qz_cr_g]
        by_cases hi : i = j
        · rw [hi, if_neg (fun q => q.2 hs), if_neg (fun q => q.2 hs)]
        · by_cases q : i < j ∧ ¬ 4 ≤ y (1216 + 4 * i + 0)
          · rw [if_pos q, if_pos ⟨by omega, q.2⟩]
          · rw [if_neg q, if_neg (fun u => q ⟨by omega, u.2⟩)]
      · rw [if_neg hs]
        by_cases hi : i = j
        · rw [hi, if_pos ⟨by omega, hs⟩, qz_us]
        · rw [qz_uo (by omega), qz_turn_o (by omega), qz_cr_g]
          by_cases q : i < j ∧ ¬ 4 ≤ y (1216 + 4 * i + 0)
          · rw [if_pos q, if_pos ⟨by omega, q.2⟩]
          · rw [if_neg q, if_neg (fun u => q ⟨by omega, u.2⟩)]
    · rw [qz_cr_o (by omega)]
      split
      · rw [qz_cr_o (by omega)]
      · rw [qz_uo (by omega), qz_turn_o (by omega), qz_cr_o (by omega)]
  · by_cases h3 : (a - 16) % 8 = 3
    · have ea : a = 16 + 8 * ((a - 16) / 8) + 3 := by omega
      have hk1 : (a - 16) / 8 < 150 := by omega
      generalize (a - 16) / 8 = k at ea hk1
      subst ea
      rw [qz_cr_3 hk1]
      have hmb : qz_mb (qz_cr y n j) k (nI j) ↔ qz_mb y k (nI j) := by
        simp only [qz_mb]
        rw [qz_cr_o (by omega), qz_cr_o (by omega)]
      by_cases hop : k < n ∧ ¬ 4 ≤ y (16 + 8 * k + 3)
      · obtain ⟨u, v⟩ := qzR_ko h k hop.1 hop.2
        obtain ⟨g, hg, eg⟩ := qzR_kg h k hop.1
        have eg2 : (y (16 + 8 * k + 6)).toNatClampNeg = g := by rw [eg, nI_clamp (by omega)]
        rw [eg2]
        by_cases hs : 4 ≤ y (1216 + 4 * j + 0)
        · rw [if_pos hs, qz_cr_3 hk1, eg2]
          have hgj : g ≠ j := fun q => hop.2 (by rw [← v g hg eg, q]; exact hs)
          by_cases q : g < j
          · rw [if_pos ⟨hop.1, hop.2, by omega⟩, if_pos ⟨hop.1, hop.2, q⟩]
          · rw [if_neg (fun w => absurd w.2.2 (by omega)), if_neg (fun w => q w.2.2)]
        · rw [if_neg hs, qz_uo (by omega), qz_turn_3]
          rcases Nat.lt_trichotomy g j with q | q | q
          · have e5 : qz_cr y n j (16 + 8 * k + 3) = 5 := by rw [qz_cr_3 hk1, eg2, if_pos ⟨hop.1, hop.2, q⟩]
            rw [if_pos (show k < n ∧ ¬ 4 ≤ y (16 + 8 * k + 3) ∧ g < j + 1 from ⟨hop.1, hop.2, by omega⟩), e5]
            split <;> rfl
          · have e5 : qz_cr y n j (16 + 8 * k + 3) = y (16 + 8 * k + 3) := by rw [qz_cr_3 hk1, eg2, if_neg (fun w => absurd w.2.2 (by omega))]
            rw [if_pos (show k < n ∧ ¬ 4 ≤ y (16 + 8 * k + 3) ∧ g < j + 1 from ⟨hop.1, hop.2, by omega⟩), e5, if_pos (show k < n ∧ qz_mb (qz_cr y n j) k (nI j) ∧ ¬ 4 ≤ y (16 + 8 * k + 3) from ⟨hop.1, hmb.mpr ⟨by rw [eg, q], u⟩, hop.2⟩)]
          · have e5 : qz_cr y n j (16 + 8 * k + 3) = y (16 + 8 * k + 3) := by rw [qz_cr_3 hk1, eg2, if_neg (fun w => absurd w.2.2 (by omega))]
            have e6 : ¬ (k < n ∧ qz_mb (qz_cr y n j) k (nI j) ∧ ¬ 4 ≤ y (16 + 8 * k + 3)) := by
              rintro ⟨_, w, _⟩
              have w2 := (hmb.mp w).1
              rw [eg, nI_eq (by omega) (by omega)] at w2
              omega
            rw [if_neg (show ¬ (k < n ∧ ¬ 4 ≤ y (16 + 8 * k + 3) ∧ g < j + 1) from fun w => absurd w.2.2 (by omega)), e5, if_neg e6]
      · have e0 : qz_cr y n j (16 + 8 * k + 3) = y (16 + 8 * k + 3) := by rw [qz_cr_3 hk1, if_neg (fun w => hop ⟨w.1, w.2.1⟩)]
        rw [if_neg (fun w => hop ⟨w.1, w.2.1⟩)]
        split
        · exact e0.symm
        · rw [qz_uo (by omega), qz_turn_3, e0, if_neg (fun w => hop ⟨w.1, w.2.2⟩)]
    · rw [qz_cr_o (by omega)]
      split
      · rw [qz_cr_o (by omega)]
      · rw [qz_uo (by omega), qz_turn_o (by omega), qz_cr_o (by omega)]
abbrev qz_crs (y : Nat → Int32) (n j : Nat) : Int32 := qz_sum (fun k => if ¬ 4 ≤ y (16 + 8 * k + 3) ∧ (y (16 + 8 * k + 6)).toNatClampNeg < j then 1 else 0) n
theorem qz_crs_s (h : qz_R X y n p f e t b) {j : Nat} (hj : j < p) : qz_crs y n (j + 1) = if 4 ≤ y (1216 + 4 * j + 0) then qz_crs y n j else qz_crs y n j + qz_turns (qz_cr y n j) n (nI j) := by
  have hp0 := (qzR_pn h).1
  have hn0 := qzR_nn h
  by_cases hs : 4 ≤ y (1216 + 4 * j + 0)
  · rw [if_pos hs]
    refine qz_sum_c n (fun k hk => ?_)
    by_cases hop : ¬ 4 ≤ y (16 + 8 * k + 3)
    · obtain ⟨u, v⟩ := qzR_ko h k hk hop
      obtain ⟨g, hg, eg⟩ := qzR_kg h k hk
      have eg2 : (y (16 + 8 * k + 6)).toNatClampNeg = g := by rw [eg, nI_clamp (by omega)]
      have hgj : g ≠ j := fun q => hop (by rw [← v g hg eg, q]; exact hs)
      show (if ¬ 4 ≤ y (16 + 8 * k + 3) ∧ (y (16 + 8 * k + 6)).toNatClampNeg < j + 1 then (1 : Int32) else 0) = (if ¬ 4 ≤ y (16 + 8 * k + 3) ∧ (y (16 + 8 * k + 6)).toNatClampNeg < j then 1 else 0)
      simp only [eg2]
      by_cases q : g < j
      · rw [if_pos ⟨hop, by omega⟩, if_pos ⟨hop, q⟩]
      · rw [if_neg (fun w => absurd w.2 (by omega)), if_neg (fun w => q w.2)]
    · show (if ¬ 4 ≤ y (16 + 8 * k + 3) ∧ (y (16 + 8 * k + 6)).toNatClampNeg < j + 1 then (1 : Int32) else 0) = (if ¬ 4 ≤ y (16 + 8 * k + 3) ∧ (y (16 + 8 * k + 6)).toNatClampNeg < j then 1 else 0)
      rw [if_neg (fun w => hop w.1), if_neg (fun w => hop w.1)]
  · rw [if_neg hs]
    unfold qz_turns
    rw [← qz_sum_add]
    refine qz_sum_c n (fun k hk => ?_)
    have hmb : qz_mb (qz_cr y n j) k (nI j) ↔ qz_mb y k (nI j) := by
      simp only [qz_mb]
      rw [qz_cr_o (by omega), qz_cr_o (by omega)]
    show (if ¬ 4 ≤ y (16 + 8 * k + 3) ∧ (y (16 + 8 * k + 6)).toNatClampNeg < j + 1 then (1 : Int32) else 0) = (if ¬ 4 ≤ y (16 + 8 * k + 3) ∧ (y (16 + 8 * k + 6)).toNatClampNeg < j then 1 else 0) + (if qz_mb (qz_cr y n j) k (nI j) ∧ ¬ 4 ≤ qz_cr y n j (16 + 8 * k + 3) then 1 else 0)
    by_cases hop : ¬ 4 ≤ y (16 + 8 * k + 3)
    · obtain ⟨u, v⟩ := qzR_ko h k hk hop
      obtain ⟨g, hg, eg⟩ := qzR_kg h k hk
      have eg2 : (y (16 + 8 * k + 6)).toNatClampNeg = g := by rw [eg, nI_clamp (by omega)]
      simp only [eg2]
      rcases Nat.lt_trichotomy g j with q | q | q
      · have e5 : qz_cr y n j (16 + 8 * k + 3) = 5 := by rw [qz_cr_3 (by omega), eg2, if_pos ⟨hk, hop, q⟩]
        have e6 : ¬ (qz_mb (qz_cr y n j) k (nI j) ∧ ¬ 4 ≤ qz_cr y n j (16 + 8 * k + 3)) := fun w => by rw [e5] at w; exact absurd (by decide) w.2
        rw [if_neg e6, if_pos (show ¬ 4 ≤ y (16 + 8 * k + 3) ∧ g < j + 1 from ⟨hop, by omega⟩), if_pos (show ¬ 4 ≤ y (16 + 8 * k + 3) ∧ g < j from ⟨hop, q⟩), Int32.add_zero]
      · have e5 : qz_cr y n j (16 + 8 * k + 3) = y (16 + 8 * k + 3) := by rw [qz_cr_3 (by omega), eg2, if_neg (fun w => absurd w.2.2 (by omega))]
        have e6 : qz_mb (qz_cr y n j) k (nI j) ∧ ¬ 4 ≤ qz_cr y n j (16 + 8 * k + 3) := ⟨hmb.mpr ⟨by rw [eg, q], u⟩, by rw [e5]; exact hop⟩
        rw [if_pos e6, if_pos (show ¬ 4 ≤ y (16 + 8 * k + 3) ∧ g < j + 1 from ⟨hop, by omega⟩), if_neg (show ¬ (¬ 4 ≤ y (16 + 8 * k + 3) ∧ g < j) from fun w => absurd w.2 (by omega)), Int32.zero_add]
      · have e6 : ¬ (qz_mb (qz_cr y n j) k (nI j) ∧ ¬ 4 ≤ qz_cr y n j (16 + 8 * k + 3)) := by
          rintro ⟨w, _⟩
          have w2 := (hmb.mp w).1
          rw [eg, nI_eq (by omega) (by omega)] at w2
          omega
        rw [if_neg e6, if_neg (show ¬ (¬ 4 ≤ y (16 + 8 * k + 3) ∧ g < j + 1) from fun w => absurd w.2 (by omega)), if_neg (show ¬ (¬ 4 ≤ y (16 + 8 * k + 3) ∧ g < j) from fun w => absurd w.2 (by omega))]
        rfl
    · have e5 : qz_cr y n j (16 + 8 * k + 3) = y (16 + 8 * k + 3) := by rw [qz_cr_3 (by omega), if_neg (fun w => hop w.2.1)]
      have e6 : ¬ (qz_mb (qz_cr y n j) k (nI j) ∧ ¬ 4 ≤ qz_cr y n j (16 + 8 * k + 3)) := fun w => hop (by have q := w.2; rw [e5] at q; exact q)
      rw [if_neg e6, if_neg (show ¬ (¬ 4 ≤ y (16 + 8 * k + 3) ∧ (y (16 + 8 * k + 6)).toNatClampNeg < j + 1) from fun w => hop w.1), if_neg (show ¬ (¬ 4 ≤ y (16 + 8 * k + 3) ∧ (y (16 + 8 * k + 6)).toNatClampNeg < j) from fun w => hop w.1)]
      rfl
theorem qz_crM_l (h : qz_R X y n p f e t b) (hN : 200 ≤ N) : ∀ fuel j : Nat, j ≤ p → p - j < fuel → f_X8_doesCrash_4 N fuel (qz_crs y n j) (nI j) (m_up Z 1 (qz_cr y n j)) = f_X8_doesCrash_47 N (qz_crs y n p) (m_up Z 1 (qz_cr y n p)) := by
  have hp0 := (qzR_pn h).1
  have hn0 := qzR_nn h
  intro fuel
  induction fuel with
  | zero => intro j _ q; omega
  | succ F ih =>
    intro j hj hF
    rw [f_X8_doesCrash_4, qz_rd (v := 7) (w := 7) rfl (by omega), qz_cr_o (by omega), qzR_py h]
    by_cases e1 : j = p
    · rw [e1, if_pos (nI_le (Nat.le_refl _) (by omega))]
    · have e0 : qz_cr y n j (1216 + 4 * j + 0) = y (1216 + 4 * j + 0) := by rw [qz_cr_g, if_neg (fun q => absurd q.1 (by omega))]
      rw [if_neg (nI_ge (by omega) (by omega)), qz_ofG (v := 0) (w := 0) rfl (by omega) (by omega), qz_bi, e0]
      have hi := ih (j + 1) (by omega) (by omega)
      rw [qz_crs_s h (by omega), qz_cr_s h (by omega)] at hi
      by_cases hs : 4 ≤ y (1216 + 4 * j + 0)
      · rw [if_pos hs, qz_nm, nI_1]
        rw [if_pos hs, if_pos hs] at hi
        exact hi
      · rw [if_neg hs, qz_turnMembers (n := n) (by rw [qz_cr_o (by omega)]; exact qzR_ny h) hn0 hN, qz_bi, qz_nm, qz_setG (v := 0) (w := 0) rfl (by omega) (by omega), qz_bv, qz_nm, nI_1]
        rw [if_neg hs, if_neg hs] at hi
        exact hi
end QCR
