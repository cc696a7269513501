-- save, restore, set, append, clearText
section QSV
variable {X Y : XT} {N T : Nat}
theorem qz_cp0 {X XC : XT} {k : Nat} (h : qz_cp (fun j => X (21 * k + j)) (fun j => XC (21 * 0 + j))) : qz_cp (fun j => X (21 * k + j)) XC := by
  have e : (fun j => XC (21 * 0 + j)) = XC := by funext j; rw [Nat.mul_zero, Nat.zero_add]
  rwa [e] at h
theorem qz_cp1 {X XC : XT} {k : Nat} (h : qz_cp (fun j => X (21 * 0 + j)) (fun j => XC (21 * k + j))) : qz_cp X (fun j => XC (21 * k + j)) := by
  have e : (fun j => X (21 * 0 + j)) = X := by funext j; rw [Nat.mul_zero, Nat.zero_add]
  rwa [e] at h
theorem qz_st_save (hN : 6000 ≤ N) : m_st_save N qz_Inv := by
  intro i X Y _ hI
  have hI0 := hI
  obtain ⟨hS, hs, ⟨o, h, a1, a2, a3, a4, a5, a6⟩, ⟨l, b1, b2, b3, b4⟩⟩ := hI0
  have hS0 := hS
  obtain ⟨n, p, f, e, t, hR, hfe, hT⟩ := hS
  obtain ⟨XC, c1, c2, c3⟩ := qz_copyFrom (N := N) (k1 := 1) (k2 := 0) (X := X) (by omega) (by rw [Nat.mul_zero, Nat.zero_add]; exact qzR_b4 hR) (by rw [Nat.mul_zero, Nat.zero_add]; exact qzR_b9 hR)
  have hM := qz_save2 (N := N) (Y := Y) (z := Y 4) N 0 (by omega) (by omega)
  rw [qz_c0_0, qz_ue, nI_0] at hM
  have hM2 : f_X8_save N Y = some (nI t, m_up (m_up Y 4 (qz_c0 (Y 4) (Y 1) 0 0 1816)) 0 (upd (Y 0) 5 1)) := by
    have q : f_X8_save N Y = f_X8_save_27 N (m_up Y 4 (qz_c0 (Y 4) (Y 1) 0 0 1816)) := hM
    rw [q]
    unfold f_X8_save_27
    rw [qz_nm, qz_rdY (v := 0) (w := 0) rfl (by omega), qz_un _ _ (show (1 : Nat) ≠ 0 by decide), qz_un _ _ (show (1 : Nat) ≠ 4 by decide), qz_un _ _ (show (0 : Nat) ≠ 4 by decide), qzR_ty hR]
  have hC : f_X7_save N X = some (nI t, m_up XC 126 (upd (XC 126) 4 1)) := by
    unfold f_X7_save f_X3_time
    rw [c1, qz_bv, qz_nm, qz_bi, qz_un _ _ (show (0 : Nat) ≠ 126 by decide), c2 0 (by omega), qzR_tx hR]
  refine ⟨_, _, _, hC, hM2, qz_Inv_s ⟨?_, Or.inr ⟨?_, ?_, ?_⟩, ⟨o, h, a1, a2, ?_, ?_, ?_, fun j hj => ?_⟩, ⟨l, b1, ?_, ?_, fun q hq => ?_⟩⟩⟩
  · rw [qz_un _ _ (show (1 : Nat) ≠ 0 by decide), qz_un _ _ (show (1 : Nat) ≠ 4 by decide)]
    exact qz_S_cp hS0 (qz_cp_eq (fun j hj => by rw [qz_un _ _ (by omega), c2 j (by omega)])) (fun _ _ => rfl)
  · rw [qz_up, qz_us]
  · rw [qz_up, qz_us]
  · rw [qz_un _ _ (show (4 : Nat) ≠ 0 by decide), qz_up]
    have q := qz_cp1 c3
    have e1 : (fun j => m_up XC 126 (upd (XC 126) 4 1) (21 * 1 + j)) = fun j => if 21 * 1 + j = 126 then upd (XC 126) 4 1 else XC (21 * 1 + j) := rfl
    refine qz_S_cp (x := fun j => XC (21 * 1 + j)) (y := Y 1) (qz_S_cp hS0 q (fun _ _ => rfl)) (qz_cp_eq (fun j hj => qz_un _ _ (by omega))) (fun a ha => ?_)
    have q2 := qz_c0_in (z := Y 4) (y := Y 1) (off := 0) (dst := 0) ha
    rwa [Nat.zero_add] at q2
  · rw [qz_un _ _ (by omega), c2 127 (by omega)]; exact a3
  · rw [qz_un _ _ (by omega), c2 127 (by omega)]; exact a4
  · rw [qz_up, qz_uo (by decide)]; exact a5
  · exact qz_S_cp (a6 j hj) (qz_cp_eq (fun q hq => by rw [qz_un _ _ (by omega), c2 _ (by omega)])) (fun a _ => by rw [qz_un _ _ (by decide), qz_un _ _ (by decide)])
  · rw [qz_un _ _ (by omega), c2 129 (by omega)]; exact b2
  · rw [qz_up, qz_uo (by decide)]; exact b3
  · rw [qz_un _ _ (by omega), c2 130 (by omega), qz_un _ _ (show (5 : Nat) ≠ 0 by decide), qz_un _ _ (show (5 : Nat) ≠ 4 by decide)]
    exact b4 q hq
theorem qz_st_restore (hN : 6000 ≤ N) : m_st_restore N qz_Inv := by
  intro i X Y _ hI
  unfold f_X7_restore f_X8_restore
  rcases hI.2.1 with ⟨u1, u2⟩ | ⟨u1, u2, _⟩
  · rw [u1, u2, if_pos rfl, if_pos rfl]
    exact ⟨_, X, Y, rfl, rfl, qz_Inv_s hI⟩
  · obtain ⟨X2, Y2, p1, p2, p3, p4⟩ := qz_push (N := N) hI hN
    rw [u1, u2, if_neg qz_10, if_neg qz_10, p1, p2, qz_bv, qz_bv]
    have p30 := p3
    obtain ⟨hS, hs, ⟨o, h, a1, a2, a3, a4, a5, a6⟩, ⟨l, b1, b2, b3, b4⟩⟩ := p30
    rcases hs with ⟨w1, _⟩ | ⟨w1, w2, w3⟩
    · rw [p4.2.1, u1] at w1
      exact absurd w1 (by decide)
    have w30 := w3
    obtain ⟨n, p, f, e, t, hR, hfe, hT⟩ := w3
    obtain ⟨XC, c1, c2, c3⟩ := qz_copyFrom (N := N) (k1 := 0) (k2 := 1) (X := X2) (by omega) (qzR_b4 hR) (qzR_b9 hR)
    have hM := qz_restore16 (N := N) (Y := Y2) (z := Y2 1) N 0 (by omega) (by omega)
    rw [qz_c0_0, qz_ue, nI_0] at hM
    have hS2 : qz_S (2000 * i) XC (qz_c0 (Y2 1) (Y2 4) 0 0 1816) := qz_S_cp w30 (qz_cp0 c3) (fun a ha => by
      have q2 := qz_c0_in (z := Y2 1) (y := Y2 4) (off := 0) (dst := 0) ha
      rwa [Nat.zero_add] at q2)
    have hM2 : f_X8_restore_16 N N 0 Y2 = some (qz_c0 (Y2 1) (Y2 4) 0 0 1816 0, m_up Y2 1 (qz_c0 (Y2 1) (Y2 4) 0 0 1816)) := by
      rw [hM]
      unfold f_X8_restore_41
      rw [qz_rdY (v := 0) (w := 0) rfl (by omega), qz_up]
    have hS20 := hS2
    obtain ⟨n3, p3', f3, e3, t3, hR3, _⟩ := hS2
    have hC : XC 0 6 = qz_c0 (Y2 1) (Y2 4) 0 0 1816 0 := (qzR_tx hR3).trans (qzR_ty hR3).symm
    unfold f_X3_time
    rw [c1, qz_bv, qz_bi, hC, hM2]
    exact ⟨_, XC, _, rfl, rfl, qz_I_fr p3 (by omega) (fun q hq => c2 q (by omega)) (qz_S_le (by omega) hS20)⟩
theorem qz_st_clearText : m_st_clearText N qz_Inv := by
  intro i X Y _ hI
  obtain ⟨hS, hs, ⟨o, h, a1, a2, a3, a4, a5, a6⟩, ⟨l, b1, b2, b3, b4⟩⟩ := qz_Inv_s hI
  unfold f_X7_clearText f_X8_clearText f_X5_empty
  rw [qz_bis, qz_nm, qz_nm, b2, b3]
  refine ⟨_, _, _, rfl, rfl, ?_, ?_, ⟨o, h, a1, a2, ?_, ?_, ?_, fun j hj => ?_⟩, ⟨0, by omega, ?_, ?_, fun q hq => absurd hq (by omega)⟩⟩
  · rw [qz_un _ _ (by decide)]
    exact qz_S_cp hS (qz_cp_eq (fun j hj => qz_un _ _ (by omega))) (fun _ _ => rfl)
  · rcases hs with ⟨u1, u2⟩ | ⟨u1, u2, u3⟩
    · exact Or.inl ⟨by rw [qz_un _ _ (by decide)]; exact u1, by rw [qz_up, qz_uo (by decide)]; exact u2⟩
    · refine Or.inr ⟨by rw [qz_un _ _ (by decide)]; exact u1, by rw [qz_up, qz_uo (by decide)]; exact u2, ?_⟩
      exact qz_S_cp u3 (qz_cp_eq (fun j hj => qz_un _ _ (by omega))) (fun a _ => by rw [qz_un _ _ (by decide)])
  · rw [qz_un _ _ (by decide)]; exact a3
  · rw [qz_un _ _ (by decide)]; exact a4
  · rw [qz_up, qz_uo (by decide)]; exact a5
  · exact qz_S_cp (a6 j hj) (qz_cp_eq (fun q hq => qz_un _ _ (by omega))) (fun a _ => by rw [qz_un _ _ (by decide)])
  · rw [qz_up, qz_us]; rfl
  · rw [qz_up, qz_us]; rfl
theorem qz_st_append : m_st_append N qz_Inv := by
  intro i X Y _ hI v1
  unfold f_X7_append f_X8_append f_X5_add f_X8_within
  rw [qz_bis]
  by_cases h1 : v1 < 32
  · rw [if_pos h1, if_pos h1, qz_bi, if_pos rfl]
    exact ⟨_, X, Y, rfl, rfl, qz_Inv_s hI⟩
  by_cases h2 : 126 < v1
  · rw [if_neg h1, if_neg h1, if_pos h2, if_neg (Int32.not_le.mpr h2), qz_bi, if_pos rfl]
    exact ⟨_, X, Y, rfl, rfl, qz_Inv_s hI⟩
  obtain ⟨c, c1, c2, rfl⟩ := (qz_within (v := v1) (a := 32) (c := 126) (u := 32) (w := 126) rfl rfl (by omega) (by omega)).mp ⟨h1, h2⟩
  obtain ⟨hS, hs, ⟨o, h, a1, a2, a3, a4, a5, a6⟩, ⟨l, b1, b2, b3, b4⟩⟩ := qz_Inv_s hI
  rw [if_neg h1, if_neg h1, if_neg h2, if_pos (Int32.not_lt.mp h2), qz_bi, if_neg qz_10, b2, b3]
  by_cases hl : l = 80
  · rw [hl, if_neg (show ¬ nI 80 < 80 by decide), if_pos (show nI 80 = 80 from rfl)]
    exact ⟨_, X, Y, rfl, rfl, qz_Inv_s hI⟩
  have hlt : l < 80 := by omega
  have hch : ((nI c).toUInt32 % 65536).toInt32 = nI c := by
    rw [pk_char, pk_tn (by omega), Nat.mod_eq_of_lt (by omega)]
  have hnar : vp_nar .char (nI c) = nI c := by
    have q := pk_vc (nI c)
    rwa [hch] at q
  rw [if_pos (show nI l < 80 from nI_lt (b := 80) hlt (by omega)), if_neg (show ¬ nI l = 80 from fun q => hl ((nI_eq (b := 80) (by omega) (by omega)).mp q)), hch, qz_nm, qz_gd (qz_in hlt (by omega)), qz_gd (qz_in hlt (by omega)), hnar, nI_clamp (by omega)]
  simp only [qz_nm, qz_un _ _ (show (129 : Nat) ≠ 130 by decide), qz_un _ _ (show (0 : Nat) ≠ 5 by decide), b2, b3, nI_1, qz_up, qz_us]
  refine ⟨_, _, _, rfl, rfl, ?_, ?_, ⟨o, h, a1, a2, ?_, ?_, ?_, fun j hj => ?_⟩, ⟨l + 1, by omega, ?_, ?_, fun q hq => ?_⟩⟩
  · rw [qz_un _ _ (by decide), qz_un _ _ (by decide)]
    exact qz_S_cp hS (qz_cp_eq (fun j hj => by rw [qz_un _ _ (by omega), qz_un _ _ (by omega)])) (fun _ _ => rfl)
  · rcases hs with ⟨u1, u2⟩ | ⟨u1, u2, u3⟩
    · exact Or.inl ⟨by rw [qz_un _ _ (by decide), qz_un _ _ (by decide)]; exact u1, by rw [qz_up, qz_uo (by decide)]; exact u2⟩
    · refine Or.inr ⟨by rw [qz_un _ _ (by decide), qz_un _ _ (by decide)]; exact u1, by rw [qz_up, qz_uo (by decide)]; exact u2, ?_⟩
      exact qz_S_cp u3 (qz_cp_eq (fun j hj => by rw [qz_un _ _ (by omega), qz_un _ _ (by omega)])) (fun a _ => by rw [qz_un _ _ (by decide), qz_un _ _ (by decide)])
  · rw [qz_un _ _ (by decide), qz_un _ _ (by decide)]; exact a3
  · rw [qz_un _ _ (by decide), qz_un _ _ (by decide)]; exact a4
  · rw [qz_up, qz_uo (by decide)]; exact a5
  · exact qz_S_cp (a6 j hj) (qz_cp_eq (fun q hq => by rw [qz_un _ _ (by omega), qz_un _ _ (by omega)])) (fun a _ => by rw [qz_un _ _ (by decide), qz_un _ _ (by decide)])
  · rw [qz_up, qz_us]
  · rw [qz_up, qz_us]
  · rw [qz_un _ _ (show (130 : Nat) ≠ 129 by decide), qz_up, qz_un _ _ (show (5 : Nat) ≠ 0 by decide), qz_up]
    by_cases hq2 : q = l
    · rw [hq2, qz_us, qz_us]
      exact ⟨rfl, c, c1, c2, rfl⟩
    · rw [qz_uo hq2, qz_uo hq2]
      exact b4 q (by omega)
end QSV
