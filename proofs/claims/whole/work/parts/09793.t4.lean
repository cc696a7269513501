-- run: the class's reader, the signs, one order
section QTD
variable {X Y : XT} {N l q q2 ch a b k m m2 r T F x : Nat} {c : Nat → Nat} {w : Nat → Int32} {v g : Int32}
theorem qt_X_up (hX : qt_X c l X) (h : w 1 = nI l) : qt_X c l (m_up X 129 w) := ⟨by rw [qz_up]; exact h, fun q hq => by rw [qz_un _ _ (show (130 : Nat) ≠ 129 by decide)]; exact hX.2 q hq⟩
theorem qt_dig1 (hc : ch < 127) (h : 48 ≤ ch ∧ ch ≤ 57) : f_X5_isDigit N (nI ch) X = some (1, X) := by
  unfold f_X5_isDigit
  rw [if_neg (show ¬ nI ch < 48 from by rw [qt_l48 hc]; omega), if_neg (show ¬ 57 < nI ch from by rw [qt_g57 hc]; omega)]
theorem qt_dig0 (hc : ch < 127) (h : ch < 48 ∨ 57 < ch) : f_X5_isDigit N (nI ch) X = some (0, X) := by
  unfold f_X5_isDigit
  by_cases h1 : ch < 48
  · rw [if_pos (show nI ch < 48 from by rw [qt_l48 hc]; exact h1)]
  · rw [if_neg (show ¬ nI ch < 48 from by rw [qt_l48 hc]; exact h1), if_pos (show 57 < nI ch from by rw [qt_g57 hc]; omega)]
theorem qt_rn0 (hT : qt_T c l) (hX : qt_X c l X) (h1 : w 1 = nI l) (h2 : w 2 = nI q) (hq : q < 2 ^ 29) (hk : k < 2) (hd : c q < 48 ∨ 57 < c q) : f_X5_readNumber_4 N (F + 1) v (nI k) (m_up X 129 w) = some (v, m_up X 129 w) := by
  rw [f_X5_readNumber_4, show (2 : Int32) = nI 2 from rfl, if_neg (nI_ge hk (by omega)), qz_up X 129 w, h2, qt_char hT (qt_X_up hX h1) (by omega), qz_bi, qt_dig0 (hT.2.1 q) hd, qz_bi, if_pos rfl]
theorem qt_rn1 (hT : qt_T c l) (hX : qt_X c l X) (h1 : w 1 = nI l) (h2 : w 2 = nI q) (hq : q < 2 ^ 29) (hk : k < 2) (hd : 48 ≤ c q ∧ c q ≤ 57) : f_X5_readNumber_4 N (F + 1) (nI x) (nI k) (m_up X 129 w) = f_X5_readNumber_4 N F (nI (10 * x + (c q - 48))) (nI (k + 1)) (m_up X 129 (upd w 2 (nI (q + 1)))) := by
  rw [f_X5_readNumber_4, show (2 : Int32) = nI 2 from rfl, if_neg (nI_ge hk (by omega)), qz_up X 129 w, h2, qt_char hT (qt_X_up hX h1) (by omega), qz_bi, qt_dig1 (hT.2.1 q) hd, qz_bi, if_neg qz_10, qz_nm, qz_up X 129 w, h2, qt_char hT (qt_X_up hX h1) (by omega), qz_bi, qz_nm, qz_nm, qz_nm, qz_nm, qz_nm, qz_up X 129 w, h2, qt_sub hd.1, show (10 : Int32) = nI 10 from rfl, pk_mul, nI_add, nI_1, nI_1, qz_uu]
theorem qt_rnum (hT : qt_T c l) (hX : qt_X c l X) (h1 : w 1 = nI l) (h2 : w 2 = nI q) (hq : q < 2 ^ 28) (hN : 200 ≤ N) (hn : qt_n c b q m q2) (he : c q2 < 48 ∨ 57 < c q2) : ∃ w2 : Nat → Int32, f_X5_readNumber N (m_up X 129 w) = some (nI m, m_up X 129 w2) ∧ (∀ s : Nat, s ≠ 2 → w2 s = w s) ∧ w2 2 = nI q2 := by
  obtain ⟨F, rfl⟩ : ∃ F, N = F + 1 + 1 + 1 := ⟨N - 3, by omega⟩
  have e : f_X5_readNumber (F + 1 + 1 + 1) (m_up X 129 w) = f_X5_readNumber_4 (F + 1 + 1 + 1) (F + 1 + 1 + 1) (nI 0) (nI 0) (m_up X 129 w) := by rw [nI_0]; rfl
  obtain ⟨n1, n2, n3⟩ := hn
  rw [e, qt_rn1 hT hX h1 h2 (by omega) (by omega) ⟨n1, n2⟩]
  have g1 : upd w 2 (nI (q + 1)) 1 = nI l := by rw [qz_uo (by decide), h1]
  rcases n3 with ⟨rfl, rfl, _⟩ | ⟨rfl, _, g2, g3, rfl, _⟩
  · rw [qt_rn0 hT hX g1 qz_us (by omega) (by omega) he]
    exact ⟨_, by rw [Nat.mul_zero, Nat.zero_add], fun s hs => qz_uo hs, qz_us⟩
  · rw [qt_rn1 hT hX g1 qz_us (by omega) (by omega) ⟨g2, g3⟩, f_X5_readNumber_4, if_pos (show (2 : Int32) ≤ nI (0 + 1 + 1) from by decide)]
    exact ⟨_, by rw [Nat.mul_zero, Nat.zero_add], fun s hs => by rw [qz_uo hs, qz_uo hs], qz_us⟩
theorem qt_rnum0 (hT : qt_T c l) (hX : qt_X c l X) (h1 : w 1 = nI l) (h2 : w 2 = nI q) (hq : q < 2 ^ 28) (hN : 200 ≤ N) (he : c q < 48 ∨ 57 < c q) : f_X5_readNumber N (m_up X 129 w) = some (nI 0, m_up X 129 w) := by
  obtain ⟨F, rfl⟩ : ∃ F, N = F + 1 := ⟨N - 1, by omega⟩
  have e : f_X5_readNumber (F + 1) (m_up X 129 w) = f_X5_readNumber_4 (F + 1) (F + 1) (nI 0) (nI 0) (m_up X 129 w) := by rw [nI_0]; rfl
  rw [e, qt_rn0 hT hX h1 h2 (by omega) (by omega) he]
theorem qt_kind {u : Nat} (hT : qt_T c l) (ho : qt_o c a q k m r u) : f_X5_kindOf N (nI (c a)) X = some (nI k, X) := by
  have hca := hT.2.1 a
  unfold f_X5_kindOf
  rcases ho with ⟨o1, rfl, rfl⟩ | ⟨o1, rfl, o2, o3⟩ | ⟨o1, rfl, o2⟩ | ⟨o1, rfl, o2⟩ | ⟨rfl, b, ⟨o1, o2, _⟩, _⟩
  · rw [o1]; rfl
  · rw [o1]; rfl
  · rw [o1]; rfl
  · rw [o1]; rfl
  · rw [if_neg (show ¬ nI (c a) = 42 from by rw [qt_e42 hca]; omega), if_neg (show ¬ nI (c a) = 43 from by rw [qt_e43 hca]; omega), if_neg (show ¬ nI (c a) = 102 from by rw [qt_e102 hca]; omega), if_neg (show ¬ nI (c a) = 119 from by rw [qt_e119 hca]; omega), nI_0]
/-- the end of an order that is no submit -/
theorem qt_R32 {w2 : Nat → Int32} (hk : 0 < k) (hk2 : k < 10) (h3 : w 3 = nI k) (hr : f_X5_readNumber N (m_up X 129 w) = some (nI m, m_up X 129 w2)) (hf : ∀ s : Nat, s ≠ 2 → w2 s = w s) (h2 : w2 2 = nI q) : f_X5_readOrder_32 N (m_up X 129 w) = some (m_up X 129 (upd (upd w2 4 (nI m)) 2 (nI (q + 1)))) := by
  have e3 : upd w2 4 (nI m) 3 = nI k := by rw [qz_uo (by decide), hf 3 (by decide), h3]
  have e2 : upd w2 4 (nI m) 2 = nI q := by rw [qz_uo (by decide), h2]
  unfold f_X5_readOrder_32
  rw [hr, qz_bi, qz_nm, qz_up X 129 w2, qz_uu X 129 w2, qz_up X 129 (upd w2 4 (nI m)), e3, if_neg (nI_ne0 hk (by omega))]
  unfold f_X5_readOrder_51
  rw [qz_nm, qz_nm, qz_up X 129 (upd w2 4 (nI m)), e2, nI_1, qz_uu]
set_option maxHeartbeats 4000000 in
theorem qt_R {u : Nat} (hT : qt_T c l) (hX : qt_X c l X) (h1 : w 1 = nI l) (h2 : w 2 = nI a) (ha : a ≤ l) (hN : 200 ≤ N) (ho : qt_o c a q k m r u) (hend : c q = 59 ∨ q = l) : ∃ w2 : Nat → Int32, f_X5_readOrder N (m_up X 129 w) = some (m_up X 129 w2) ∧ w2 1 = nI l ∧ w2 2 = nI (q + 1) ∧ w2 3 = nI k ∧ (k ≠ 4 → w2 4 = nI m) ∧ (k = 0 → w2 5 = nI r ∧ w2 6 = nI u) := by
  have hl := hT.1
  have hq : c q < 48 ∨ 57 < c q := by
    rcases hend with h | h
    · omega
    · rw [hT.2.2.2 q (by omega)]; omega
  have g1 : upd w 3 (nI k) 1 = nI l := by rw [qz_uo (by decide), h1]
  have g2 : upd w 3 (nI k) 2 = nI a := by rw [qz_uo (by decide), h2]
  have g3 : upd w 3 (nI k) 3 = nI k := qz_us
  unfold f_X5_readOrder
  rw [qz_up X 129 w, h2, qt_char hT (qt_X_up hX h1) (by omega), qz_bi, qt_kind hT ho, qz_bi, qz_nm, qz_up X 129 w, qz_uu X 129 w, qz_up X 129 (upd w 3 (nI k)), g3]
  generalize upd w 3 (nI k) = w3 at g1 g2 g3 ⊢
  have hbig : ∀ w4 : Nat → Int32, 0 < k → k < 10 → f_X5_readNumber N (m_up X 129 (upd w3 2 (nI (a + 1)))) = some (nI m, m_up X 129 w4) → (∀ s : Nat, s ≠ 2 → w4 s = upd w3 2 (nI (a + 1)) s) → w4 2 = nI q → ∃ w2 : Nat → Int32, (if nI k = 0 then (f_X5_readOrder_32 N (m_up X 129 w3)) else (m_nm (w3 2 + 1) fun y_23 => m_nm (m_up (m_up X 129 w3) 129 (upd w3 2 y_23)) fun X_25 => f_X5_readOrder_32 N X_25)) = some (m_up X 129 w2) ∧ w2 1 = nI l ∧ w2 2 = nI (q + 1) ∧ w2 3 = nI k ∧ (k ≠ 4 → w2 4 = nI m) ∧ (k = 0 → w2 5 = nI r ∧ w2 6 = nI u) := by
    intro w4 k1 k2 e1 e2 e3
    rw [if_neg (nI_ne0 k1 (by omega)), qz_nm, qz_nm, g2, nI_1, qz_uu, qt_R32 k1 k2 (by rw [qz_uo (by decide), g3]) e1 e2 e3]
    exact ⟨_, rfl, by rw [qz_uo (by decide), qz_uo (by decide), e2 1 (by decide), qz_uo (by decide), g1], qz_us, by rw [qz_uo (by decide), qz_uo (by decide), e2 3 (by decide), qz_uo (by decide), g3], fun _ => by rw [qz_uo (by decide), qz_us], fun h => absurd h (by omega)⟩
  have hu1 : upd w3 2 (nI (a + 1)) 1 = nI l := by rw [qz_uo (by decide), g1]
  rcases ho with ⟨o1, rfl, rfl⟩ | ⟨o1, rfl, o2, o3⟩ | ⟨o1, rfl, o2⟩ | ⟨o1, rfl, o2⟩ | ⟨rfl, b, o1, o2, o3, o4, rfl, o6⟩
  · have e1 := qt_rnum0 (N := N) hT hX hu1 qz_us (by omega) hN hq
    rw [if_neg (show ¬ nI 4 = 0 by decide), qz_nm, qz_nm, g2, nI_1, qz_uu, qt_R32 (k := 4) (by omega) (by omega) (by rw [qz_uo (by decide), g3]) e1 (fun _ _ => rfl) qz_us]
    exact ⟨_, rfl, by rw [qz_uo (by decide), qz_uo (by decide), hu1], qz_us, by rw [qz_uo (by decide), qz_uo (by decide), qz_uo (by decide), g3], fun h => absurd rfl h, fun h => absurd h (by decide)⟩
  · obtain ⟨w4, e1, e2, e3⟩ := qt_rnum (N := N) hT hX hu1 qz_us (by omega) hN o3 hq
    exact hbig w4 (by omega) (by omega) e1 e2 e3
  · obtain ⟨w4, e1, e2, e3⟩ := qt_rnum (N := N) hT hX hu1 qz_us (by omega) hN o2 hq
    exact hbig w4 (by omega) (by omega) e1 e2 e3
  · obtain ⟨w4, e1, e2, e3⟩ := qt_rnum (N := N) hT hX hu1 qz_us (by omega) hN o2 hq
    exact hbig w4 (by omega) (by omega) e1 e2 e3
  · have hqb := qt_n_q o1
    obtain ⟨w4, e1, e2, e3⟩ := qt_rnum (N := N) hT hX g1 g2 (by omega) hN o1 (by omega)
    have i1 : upd (upd w4 4 (nI m)) 2 (nI (b + 1)) 1 = nI l := by rw [qz_uo (by decide), qz_uo (by decide), e2 1 (by decide), g1]
    have i2 : upd (upd w4 4 (nI m)) 2 (nI (b + 1)) 2 = nI (b + 1) := qz_us
    have i3 : upd (upd w4 4 (nI m)) 2 (nI (b + 1)) 3 = nI 0 := by rw [qz_uo (by decide), qz_uo (by decide), e2 3 (by decide), g3]
    have i4 : upd (upd w4 4 (nI m)) 2 (nI (b + 1)) 4 = nI m := by rw [qz_uo (by decide), qz_us]
    have j2 : upd w4 4 (nI m) 2 = nI b := by rw [qz_uo (by decide), e3]
    have j3 : upd w4 4 (nI m) 3 = nI 0 := by rw [qz_uo (by decide), e2 3 (by decide), g3]
    rw [if_pos nI_0]
    unfold f_X5_readOrder_32
    rw [e1, qz_bi, qz_nm, qz_up X 129 w4, qz_uu X 129 w4, qz_up X 129 (upd w4 4 (nI m)), j3, if_pos nI_0]
    unfold f_X5_readRecords
    rw [qz_nm, qz_nm, qz_up X 129 (upd w4 4 (nI m)), j2, nI_1, qz_uu]
    generalize upd (upd w4 4 (nI m)) 2 (nI (b + 1)) = w5 at i1 i2 i3 i4 ⊢
    have k1 : upd (upd w5 5 (nI (c (b + 1) - 48))) 2 (nI (b + 1 + 1)) 1 = nI l := by rw [qz_uo (by decide), qz_uo (by decide), i1]
    have k2 : upd (upd w5 5 (nI (c (b + 1) - 48))) 2 (nI (b + 1 + 1)) 2 = nI (b + 2) := qz_us
    have k3 : upd (upd w5 5 (nI (c (b + 1) - 48))) 2 (nI (b + 1 + 1)) 3 = nI 0 := by rw [qz_uo (by decide), qz_uo (by decide), i3]
    have k4 : upd (upd w5 5 (nI (c (b + 1) - 48))) 2 (nI (b + 1 + 1)) 4 = nI m := by rw [qz_uo (by decide), qz_uo (by decide), i4]
    have k5 : upd (upd w5 5 (nI (c (b + 1) - 48))) 2 (nI (b + 1 + 1)) 5 = nI (c (b + 1) - 48) := by rw [qz_uo (by decide), qz_us]
    rw [qz_up X 129 w5, i2, qt_char hT (qt_X_up hX i1) (by omega), qz_bi, qz_nm, qz_nm, qz_up X 129 w5, qz_uu, qt_sub (show 48 ≤ c (b + 1) by omega), qz_nm, qz_nm, qz_up X 129 (upd w5 5 (nI (c (b + 1) - 48))), qz_uo (show (2 : Nat) ≠ 5 by decide), i2, nI_1, qz_uu]
    generalize upd (upd w5 5 (nI (c (b + 1) - 48))) 2 (nI (b + 1 + 1)) = w6 at k1 k2 k3 k4 k5 ⊢
    rw [qz_up X 129 w6, k2, qt_char hT (qt_X_up hX k1) (by omega), qz_bi]
    unfold f_X5_readRecords_54 f_X5_readOrder_51
    rcases o6 with ⟨q1, rfl, rfl⟩ | ⟨q1, rfl, rfl⟩
    · rw [if_pos (show nI (c (b + 2)) = 33 from by rw [q1]; rfl), qz_gd (Or.inr rfl), qz_nm, qz_up X 129 w6, qz_uu, qz_up X 129 (upd w6 6 1), qz_us, if_neg qz_10, qz_nm, qz_nm, qz_uo (show (2 : Nat) ≠ 6 by decide), k2, nI_1, qz_uu, qz_bv, qz_nm, qz_nm, qz_up X 129 _, qz_us, nI_1, qz_uu]
      exact ⟨_, rfl, by rw [qz_uo (by decide), qz_uo (by decide), qz_uo (by decide), k1], qz_us, by rw [qz_uo (by decide), qz_uo (by decide), qz_uo (by decide), k3], fun _ => by rw [qz_uo (by decide), qz_uo (by decide), qz_uo (by decide), k4], fun _ => ⟨by rw [qz_uo (by decide), qz_uo (by decide), qz_uo (by decide), k5], by rw [qz_uo (by decide), qz_uo (by decide), qz_us]; rfl⟩⟩
    · rw [if_neg (show ¬ nI (c (b + 2)) = 33 from by rw [qt_e33 (hT.2.1 _)]; exact q1), qz_gd (Or.inl rfl), qz_nm, qz_up X 129 w6, qz_uu, qz_up X 129 (upd w6 6 0), qz_us, if_pos rfl, qz_bv, qz_nm, qz_nm, qz_up X 129 _, qz_uo (show (2 : Nat) ≠ 6 by decide), k2, nI_1, qz_uu]
      exact ⟨_, rfl, by rw [qz_uo (by decide), qz_uo (by decide), k1], qz_us, by rw [qz_uo (by decide), qz_uo (by decide), k3], fun _ => by rw [qz_uo (by decide), qz_uo (by decide), k4], fun _ => ⟨by rw [qz_uo (by decide), qz_uo (by decide), k5], by rw [qz_uo (by decide), qz_us]; exact nI_0.symm⟩⟩
-- how many are answered: never less than none
theorem qt_fw_l : ∀ (fuel c m : Nat) (g : Int32) (X : XT) (r : Int32) (X2 : XT), c ≤ 12 → m ≤ c → f_X3_finishWriting_52 N fuel g (nI m) (nI c) X = some (r, X2) → ∃ w : Nat, w ≤ 12 ∧ r = nI w := by
  intro fuel
  induction fuel with
  | zero => intro c m g X r X2 _ _ h; cases h
  | succ F ih =>
    intro c m g X r X2 hc hm h
    rw [f_X3_finishWriting_52] at h
    by_cases e : c = 12
    · subst e
      rw [if_pos (show (12 : Int32) ≤ nI 12 from by decide)] at h
      unfold f_X3_finishWriting_140 at h
      simp only [qz_nm] at h
      obtain ⟨_, h⟩ := m_gd_s h
      obtain ⟨_, h⟩ := m_gd_s h
      cases h
      exact ⟨m, hm, rfl⟩
    · rw [show (12 : Int32) = nI 12 from rfl, if_neg (nI_ge (show c < 12 by omega) (by omega))] at h
      simp only [qz_nm] at h
      obtain ⟨_, h⟩ := m_gd_s h
      by_cases e1 : X 20 (nI c).toNatClampNeg = -5
      · rw [if_pos e1, nI_1] at h
        exact ih (c + 1) m g X r X2 (by omega) (by omega) h
      · rw [if_neg e1] at h
        obtain ⟨r4, X4, _, h⟩ := m_bi_s h
        by_cases e2 : r4 = g
        · rw [if_pos e2] at h
          obtain ⟨X5, _, h⟩ := m_bv_s h
          obtain ⟨_, h⟩ := m_gd_s h
          obtain ⟨_, h⟩ := m_gd_s h
          obtain ⟨r6, X6, _, h⟩ := m_bi_s h
          obtain ⟨_, h⟩ := m_gd_s h
          rw [nI_1, nI_1] at h
          exact ih (c + 1) (m + 1) g _ r X2 (by omega) (by omega) h
        · rw [if_neg e2, nI_1] at h
          exact ih (c + 1) m g X4 r X2 (by omega) (by omega) h
theorem qt_fw {X X2 : XT} {r : Int32} (h : f_X3_finishWriting N X = some (r, X2)) : ∃ w : Nat, w ≤ 12 ∧ r = nI w := by
  unfold f_X3_finishWriting at h
  simp only [qz_nm] at h
  obtain ⟨X3, _, h⟩ := m_bv_s h
  obtain ⟨_, h⟩ := m_gd_s h
  obtain ⟨_, h⟩ := m_gd_s h
  obtain ⟨_, h⟩ := m_gd_s h
  obtain ⟨r4, X4, _, h⟩ := m_bi_s h
  obtain ⟨_, h⟩ := m_gd_s h
  rw [← nI_0] at h
  exact qt_fw_l _ 0 0 _ _ _ _ (by omega) (by omega) h
theorem qt_p43 {X X2 : XT} {r v : Int32} (h : f_X3_passTick_43 N v X = some (r, X2)) : r = v := by
  unfold f_X3_passTick_43 at h
  split at h
  · obtain ⟨X3, _, h⟩ := m_bv_s h
    cases h; rfl
  · split at h
    · obtain ⟨X3, _, h⟩ := m_bv_s h
      cases h; rfl
    · obtain ⟨X3, _, h⟩ := m_bv_s h
      obtain ⟨X4, _, h⟩ := m_bv_s h
      cases h; rfl
theorem qt_pt {X X2 : XT} {r : Int32} (h : f_X3_passTick N X = some (r, X2)) : ∃ w : Nat, w ≤ 12 ∧ r = nI w := by
  unfold f_X3_passTick at h
  simp only [qz_nm] at h
  split at h
  · exact ⟨0, by omega, (qt_p43 h).trans nI_0.symm⟩
  · split at h
    · exact ⟨0, by omega, (qt_p43 h).trans nI_0.symm⟩
    · obtain ⟨r4, X4, h4, h⟩ := m_bi_s h
      rw [qt_p43 h]
      exact qt_fw h4
theorem qt_pts : ∀ (fuel k v m : Nat) (X : XT) (r : Int32) (X2 : XT), k ≤ m → m < 2 ^ 20 → v ≤ 12 * k → f_X3_passTicks_4 N fuel (nI m) (nI v) (nI k) X = some (r, X2) → ∃ w : Nat, w ≤ 12 * m ∧ r = nI w := by
  intro fuel
  induction fuel with
  | zero => intro k v m X r X2 _ _ _ h; cases h
  | succ F ih =>
    intro k v m X r X2 hk hm hv h
    rw [f_X3_passTicks_4] at h
    by_cases e : k = m
    · subst e
      rw [if_pos (nI_le (Nat.le_refl _) (by omega))] at h
      cases h
      exact ⟨v, hv, rfl⟩
    · rw [if_neg (nI_ge (by omega) (by omega))] at h
      obtain ⟨r4, X4, h4, h⟩ := m_bi_s h
      obtain ⟨x, x1, rfl⟩ := qt_pt h4
      simp only [qz_nm] at h
      rw [nI_add, nI_1] at h
      exact ih (k + 1) (v + x) m X4 r X2 (by omega) hm (by omega) h
theorem qt_ticks_r {X X2 : XT} {r : Int32} (hm : m < 2 ^ 20) (h : f_X3_passTicks N (nI m) X = some (r, X2)) : ¬ r < 0 := by
  unfold f_X3_passTicks at h
  rw [← nI_0] at h
  obtain ⟨w, w1, rfl⟩ := qt_pts _ 0 0 m X r X2 (by omega) hm (by omega) h
  exact nI_pos (by omega)
end QTD
