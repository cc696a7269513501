-- the calls that act
section QA
variable {X Y : XT} {N T : Nat}
theorem qz_I_le {T2 : Nat} (hT : T ≤ T2) (h : qz_I T X Y) : qz_I T2 X Y := by
  obtain ⟨h1, h2, ⟨o, hh, a1, a2, a3, a4, a5, a6⟩, h4⟩ := h
  refine ⟨qz_S_le hT h1, ?_, ⟨o, hh, a1, a2, a3, a4, a5, fun i hi => qz_S_le hT (a6 i hi)⟩, h4⟩
  rcases h2 with q | ⟨q1, q2, q3⟩
  · exact Or.inl q
  · exact Or.inr ⟨q1, q2, qz_S_le hT q3⟩
def qz_Inv (i : Nat) (X Y : XT) : Prop := qz_I (2000 * i) X Y
theorem qz_Inv_s {i : Nat} (h : qz_Inv i X Y) : qz_Inv (i + 1) X Y := qz_I_le (by omega) h
theorem qz_st_skip : m_st_skip qz_Inv := fun _ _ _ _ h => qz_Inv_s h
theorem qz_st_mean : m_st_mean qz_Inv := fun _ _ _ _ h => by
  obtain ⟨⟨n, p, f, e, t, hR, _⟩, _⟩ := h
  exact ⟨qzR_t7 hR, qzR_t1 hR⟩
theorem qz_sameN {X2 Y2 : XT} (hs : qz_same X X2 Y Y2) {n0 p0 f0 e0 t0 b0 : Nat} (h0 : qz_R X (Y 1) n0 p0 f0 e0 t0 b0) {n p f e t b : Nat} (h : qz_R X2 (Y2 1) n p f e t b) : n = n0 := by
  have q1 := qzR_ny h
  rw [hs.2.2.2.2.2.1, qzR_ny h0] at q1
  have a := qzR_nn h
  have c := qzR_nn h0
  exact ((nI_eq (by omega) (by omega)).mp q1).symm
theorem qz_st_submit (hN : 6000 ≤ N) : m_st_submit N qz_Inv := by
  intro i X Y _ hI v1 v2 v3 hu
  have hI0 := hI
  obtain ⟨⟨n, p, f, e, t, hR, hfe, hT⟩, _⟩ := hI0
  obtain ⟨r, r1, r2, r3⟩ := qz_refuse (Z := Y) hR (show 200 ≤ N by omega) v1 v2
  rw [qz_ue] at r2
  unfold f_X7_submit f_X8_submit
  rw [r1, r2, qz_bi, qz_bi]
  by_cases h0 : r = 0
  · obtain ⟨c0, r0, hc, rfl, hr1, hr2, rfl, hn, hfree⟩ := r3 h0
    obtain ⟨X2, Y2, p1, p2, p3, p4⟩ := qz_push (N := N) hI hN
    rw [if_pos h0, if_pos h0, p1, p2, qz_bv, qz_bv, qz_bis, qz_bis]
    have hS2 := p3.1
    obtain ⟨r4, X3, y3, u1, u2, u3, u4, _⟩ := qz_submitS (Z := Y2) (u := v3) hS2 (show 200 ≤ N by omega) (fun n2 p2 f2 e2 t2 h2 => by rw [qz_sameN p4 hR h2]; exact hn) hc ⟨hr1, hr2⟩ (by rw [p4.1 20 (by omega)]; exact hfree) hu
    rw [qz_ue] at u2
    exact ⟨r4, X3, _, u1, u2, qz_I_fr p3 (by omega) u4 (qz_S_le (by omega) u3)⟩
  · rw [if_neg h0, if_neg h0]
    exact ⟨r, X, Y, rfl, rfl, qz_Inv_s hI⟩
theorem qz_st_fail (hN : 6000 ≤ N) : m_st_fail N qz_Inv := by
  intro i X Y _ hI v1
  unfold f_X7_fail f_X8_fail
  rcases qz_client (N := N) (X := X) v1 with ⟨c0, hc, rfl⟩ | ⟨q1, q2⟩
  · obtain ⟨X2, Y2, p1, p2, p3, p4⟩ := qz_push (N := N) hI hN
    rw [qz_isClientC hc, qz_clientM hc, qz_bi, qz_bi, if_neg (by decide), if_neg (by decide), p1, p2, qz_bv, qz_bv, qz_bis, qz_bis]
    obtain ⟨r4, X3, y3, u1, u2, u3, u4, _⟩ := qz_fail (Z := Y2) p3.1 hc (show 200 ≤ N by omega)
    rw [qz_ue] at u2
    exact ⟨r4, X3, _, u1, u2, qz_I_fr p3 (by omega) u4 (qz_S_le (by omega) u3)⟩
  · rw [q1, q2, qz_bi, qz_bi, if_pos rfl, if_pos rfl]
    exact ⟨-1, X, Y, rfl, rfl, qz_Inv_s hI⟩
theorem qz_st_withdraw (hN : 6000 ≤ N) : m_st_withdraw N qz_Inv := by
  intro i X Y _ hI v1
  have hI0 := hI
  obtain ⟨⟨n, p, f, e, t, hR, hfe, hT⟩, _⟩ := hI0
  unfold f_X7_withdraw f_X8_withdraw
  rcases qz_client (N := N) (X := X) v1 with ⟨c0, hc, rfl⟩ | ⟨q1, q2⟩
  · rw [qz_clientM hc, qz_bi, if_neg (by decide)]
    rcases qz_canW (Z := Y) hR hc (show 200 ≤ N by omega) with ⟨w1, w2, k0, w3, w4, w5, w6⟩ | ⟨w1, w2⟩
    · rw [qz_ue] at w2
      obtain ⟨X2, Y2, p1, p2, p3, p4⟩ := qz_push (N := N) hI hN
      rw [w1, w2, qz_bi, qz_bi, if_pos rfl, if_neg (by decide), p1, p2, qz_bv, qz_bv, qz_bis, qz_bis]
      obtain ⟨r4, X3, y3, u1, u2, u3, u4, _⟩ := qz_withdraw (Z := Y2) p3.1 hc (show 200 ≤ N by omega) (fun n2 p2 f2 e2 t2 h2 => ⟨k0, by rw [qz_sameN p4 hR h2]; exact w3, by rw [p4.1 20 (by omega)]; exact w4, by rw [p4.2.2.2.2.2.1]; exact w5, by rw [p4.2.2.2.2.2.1]; exact w6⟩)
      rw [qz_ue] at u2
      exact ⟨r4, X3, _, u1, u2, qz_I_fr p3 (by omega) u4 (qz_S_le (by omega) u3)⟩
    · rw [qz_ue] at w2
      rw [w1, w2, qz_bi, qz_bi, if_neg (by decide), if_pos rfl]
      exact ⟨-4, X, Y, rfl, rfl, qz_Inv_s hI⟩
  · have w1 : f_X3_refusalToTakeBack N v1 X = some (-1, X) := by
      unfold f_X3_refusalToTakeBack
      rw [q1, qz_bi, if_pos rfl]
    rw [w1, q2, qz_bi, qz_bi, if_neg (by decide), if_pos rfl]
    exact ⟨-1, X, Y, rfl, rfl, qz_Inv_s hI⟩
theorem qz_st_crash (hN : 6000 ≤ N) : m_st_crash N qz_Inv := by
  intro i X Y _ hI
  unfold f_X7_crash f_X8_crash
  obtain ⟨X2, Y2, p1, p2, p3, p4⟩ := qz_push (N := N) hI hN
  rw [p1, p2, qz_bv, qz_bv, qz_bis, qz_bis]
  obtain ⟨r4, X3, y3, u1, u2, u3, u4, _⟩ := qz_crash (Z := Y2) p3.1 (show 200 ≤ N by omega)
  rw [qz_ue] at u2
  exact ⟨r4, X3, _, u1, u2, qz_I_fr p3 (by omega) u4 (qz_S_le (by omega) u3)⟩
theorem qz_st_tick (hN : 6000 ≤ N) : m_st_tick N qz_Inv := by
  intro i X Y hi hI v1
  unfold f_X7_tick f_X8_tick f_X8_within
  by_cases h1 : v1 < 1
  · rw [if_pos h1, if_pos h1, qz_bi, if_pos rfl]
    exact ⟨-2, X, Y, rfl, rfl, qz_Inv_s hI⟩
  · by_cases h2 : 99 < v1
    · rw [if_neg h1, if_neg h1, if_pos h2, if_neg (Int32.not_le.mpr h2), qz_bi, if_pos rfl]
      exact ⟨-2, X, Y, rfl, rfl, qz_Inv_s hI⟩
    · obtain ⟨j, j1, j2, rfl⟩ := (qz_within (v := v1) (a := 1) (c := 99) (u := 1) (w := 99) rfl rfl (by omega) (by omega)).mp ⟨h1, h2⟩
      obtain ⟨X2, Y2, p1, p2, p3, p4⟩ := qz_push (N := N) hI hN
      rw [if_neg h1, if_neg h1, if_neg h2, if_pos (Int32.not_lt.mp h2), qz_bi, if_neg (by decide), p1, p2, qz_bv, qz_bv, qz_bis, qz_bis]
      obtain ⟨r4, X3, y3, u1, u2, u3, u4⟩ := qz_ticks (Z := Y2) j2 (show 2000 * i < 2 ^ 27 by omega) (show 200 ≤ N by omega) p3.1
      rw [qz_ue] at u2
      exact ⟨r4, X3, _, u1, u2, qz_I_fr p3 (by omega) u4 (qz_S_le (by omega) u3)⟩
theorem qz_undoI (hI : qz_I T X Y) (hN : 6000 ≤ N) : ∃ (r : Int32) (X2 Y2 : XT), f_X2_popInto N X = some (r, X2) ∧ f_X8_undo N Y = some (r, Y2) ∧ qz_I T X2 Y2 := by
  have hI0 := hI
  obtain ⟨hS, hs, ⟨o, h, a1, a2, a3, a4, a5, a6⟩, ⟨l, b1, b2, b3, b4⟩⟩ := hI
  unfold f_X2_popInto f_X8_undo
  rw [a4, a5]
  by_cases h0 : h = 0
  · subst h0
    rw [if_pos nI_0, if_pos nI_0]
    exact ⟨-5, X, Y, rfl, rfl, hI0⟩
  · have hne := nI_ne0 (show 0 < h by omega) (by omega)
    have hp : nI h - 1 = nI (h - 1) := by
      have q := nI_pred (h - 1)
      rwa [show h - 1 + 1 = h by omega] at q
    have hr : nI (o + (h - 1)) - nI (o + (h - 1)) / 4 * 4 = nI ((o + (h - 1)) % 4) := by
      rw [show (4 : Int32) = nI 4 from rfl]
      exact pk_rem (by omega) (by omega) (by omega)
    have hsl := a6 (h - 1) (by omega)
    have hsl0 := hsl
    obtain ⟨n, p, f, e, t, hR, hfe, hT⟩ := hsl
    have hX1 : ∀ q : Nat, q ≠ 127 → m_up X 127 (upd (X 127) 2 (nI (h - 1))) q = X q := fun q hq => qz_un _ _ hq
    obtain ⟨XC, c1, c2, c3⟩ := qz_copyFrom (N := N) (k1 := 0) (k2 := 2 + (o + (h - 1)) % 4) (X := m_up X 127 (upd (X 127) 2 (nI (h - 1)))) (by omega) (fun k hk => by rw [hX1 _ (by omega)]; exact qzR_b4 hR k hk) (fun k hk => by rw [hX1 _ (by omega)]; exact qzR_b9 hR k hk)
    have hM := qz_undo22 (N := N) (Y := m_up Y 0 (upd (Y 0) 3 (nI (h - 1)))) (s := h - 1) (z := Y 1) (by omega) (by rw [qz_up, qz_us]) N 0 (by omega) (by omega)
    rw [qz_c0_0, nI_0, qz_un _ _ (show (3 : Nat) ≠ 0 by decide)] at hM
    have e1 : m_up (m_up Y 0 (upd (Y 0) 3 (nI (h - 1)))) 1 (Y 1) = m_up Y 0 (upd (Y 0) 3 (nI (h - 1))) := by
      have q := qz_ue (m_up Y 0 (upd (Y 0) 3 (nI (h - 1)))) 1
      rwa [qz_un _ _ (show (1 : Nat) ≠ 0 by decide)] at q
    rw [e1] at hM
    have hXf : ∀ q : Nat, 21 ≤ q → q ≠ 127 → XC q = X q := fun q q1 q2 => by rw [c2 q (by omega), hX1 q q2]
    rw [if_neg hne, if_neg hne, hp, qz_nm, qz_nm, qz_up, qz_us, qz_stateAt (o := o) (h := h - 1) (by rw [qz_up, qz_uo (show (1 : Nat) ≠ 2 by decide)]; exact a3) a1 (by omega), qz_bks, qz_gd (by omega), c1, qz_bv, c2 127 (by omega), qz_up, qz_us, qz_nm, qz_nm, hM]
    refine ⟨nI (h - 1), XC, _, rfl, rfl, ?_, ?_, ⟨o, h - 1, a1, by omega, ?_, ?_, ?_, fun i hi => ?_⟩, ⟨l, b1, ?_, ?_, fun q hq => ?_⟩⟩
    · refine qz_S_cp hsl0 ?_ (fun a ha => ?_)
      · have q0 : (fun j => m_up X 127 (upd (X 127) 2 (nI (h - 1))) (21 * (2 + (o + (h - 1)) % 4) + j)) = fun j => m_up X 127 (upd (X 127) 2 (nI (h - 1))) (21 * (2 + (o + (h - 1)) % 4) + j) := rfl
        obtain ⟨z0, z1, z10, z151, z152, zr, z18, z19, z20⟩ := c3
        have hx : ∀ j : Nat, j < 21 → m_up X 127 (upd (X 127) 2 (nI (h - 1))) (21 * (2 + (o + (h - 1)) % 4) + j) = X (21 * (2 + (o + (h - 1)) % 4) + j) := fun j hj => hX1 _ (by omega)
        have hy : ∀ j : Nat, XC (21 * 0 + j) = XC j := fun j => by rw [Nat.mul_zero, Nat.zero_add]
        refine ⟨fun s s1 s2 => ?_, ?_, ?_, ?_, ?_, fun i k hi hk => ?_, fun k hk => ?_, fun k hk => ?_, fun k hk => ?_⟩
        · have q : XC (21 * 0 + 0) s = m_up X 127 (upd (X 127) 2 (nI (h - 1))) (21 * (2 + (o + (h - 1)) % 4) + 0) s := z0 s s1 s2
          rw [hy 0, hx 0 (by omega)] at q
          exact q
        · have q : XC (21 * 0 + 1) 8 = m_up X 127 (upd (X 127) 2 (nI (h - 1))) (21 * (2 + (o + (h - 1)) % 4) + 1) 8 := z1
          rw [hy 1, hx 1 (by omega)] at q
          exact q
        · have q : XC (21 * 0 + 10) 4 = m_up X 127 (upd (X 127) 2 (nI (h - 1))) (21 * (2 + (o + (h - 1)) % 4) + 10) 4 := z10
          rw [hy 10, hx 10 (by omega)] at q
          exact q
        · have q : XC (21 * 0 + 15) 1 = m_up X 127 (upd (X 127) 2 (nI (h - 1))) (21 * (2 + (o + (h - 1)) % 4) + 15) 1 := z151
          rw [hy 15, hx 15 (by omega)] at q
          exact q
        · have q : XC (21 * 0 + 15) 2 = m_up X 127 (upd (X 127) 2 (nI (h - 1))) (21 * (2 + (o + (h - 1)) % 4) + 15) 2 := z152
          rw [hy 15, hx 15 (by omega)] at q
          exact q
        · have q : XC (21 * 0 + i) k = m_up X 127 (upd (X 127) 2 (nI (h - 1))) (21 * (2 + (o + (h - 1)) % 4) + i) k := zr i k hi hk
          rw [hy i, hx i (by omega)] at q
          exact q
        · have q : XC (21 * 0 + 18) k = m_up X 127 (upd (X 127) 2 (nI (h - 1))) (21 * (2 + (o + (h - 1)) % 4) + 18) k := z18 k hk
          rw [hy 18, hx 18 (by omega)] at q
          exact q
        · have q : XC (21 * 0 + 19) k = m_up X 127 (upd (X 127) 2 (nI (h - 1))) (21 * (2 + (o + (h - 1)) % 4) + 19) k := z19 k hk
          rw [hy 19, hx 19 (by omega)] at q
          exact q
        · have q : XC (21 * 0 + 20) k = m_up X 127 (upd (X 127) 2 (nI (h - 1))) (21 * (2 + (o + (h - 1)) % 4) + 20) k := z20 k hk
          rw [hy 20, hx 20 (by omega)] at q
          exact q
      · rw [qz_up]
        have q := qz_c0_in (z := Y 1) (y := Y 3) (off := 1816 * (h - 1)) (dst := 0) ha
        rwa [Nat.zero_add] at q
    · rcases hs with ⟨u1, u2⟩ | ⟨u1, u2, u3⟩
      · exact Or.inl ⟨by rw [hXf 126 (by omega) (by omega)]; exact u1, by rw [qz_un _ _ (by decide), qz_up, qz_uo (by decide)]; exact u2⟩
      · refine Or.inr ⟨by rw [hXf 126 (by omega) (by omega)]; exact u1, by rw [qz_un _ _ (by decide), qz_up, qz_uo (by decide)]; exact u2, ?_⟩
        exact qz_S_cp u3 (qz_cp_eq (fun j hj => hXf _ (by omega) (by omega))) (fun a _ => by rw [qz_un _ _ (by decide), qz_un _ _ (by decide)])
    · rw [c2 127 (by omega), qz_up, qz_uo (by decide)]; exact a3
    · rw [c2 127 (by omega), qz_up, qz_us]
    · rw [qz_un _ _ (by decide), qz_up, qz_us]
    · refine qz_S_cp (a6 i (by omega)) (qz_cp_eq (fun j hj => hXf _ (by omega) (by omega))) (fun a _ => by rw [qz_un _ _ (by decide), qz_un _ _ (by decide)])
    · rw [hXf 129 (by omega) (by omega)]; exact b2
    · rw [qz_un _ _ (by decide), qz_up, qz_uo (by decide)]; exact b3
    · rw [hXf 130 (by omega) (by omega), qz_un _ _ (show (5 : Nat) ≠ 1 by decide), qz_un _ _ (show (5 : Nat) ≠ 0 by decide)]
      exact b4 q hq
theorem qz_st_undo (hN : 6000 ≤ N) : m_st_undo N qz_Inv := by
  intro i X Y _ hI
  obtain ⟨r, X2, Y2, h1, h2, h3⟩ := qz_undoI (N := N) hI hN
  refine ⟨r, X2, Y2, ?_, h2, qz_I_le (by omega) h3⟩
  unfold f_X7_undo
  rw [h1, qz_bi]
end QA
