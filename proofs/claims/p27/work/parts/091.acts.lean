-- the calls that act
section QA
variable {X Y : XT} {N T : Nat}
theorem qz_I_le {T2 : Nat} (hT : T ≤ T2) (h : qz_I T X Y) : qz_I T2 X Y := by
  obtain ⟨h1, h2, ⟨o, hh, a1, a2, a3, a4, a5, a6⟩, h4⟩ := h
  refine ⟨qz_S_le hT h1, ?_, ⟨o, hh, a1, a2, a3, a4, a5, fun i hi => qz_S_le hT (a6 i hi)⟩, h4⟩
  rcases h2 with q | ⟨q1, q2, q3⟩
  · exact Or.inl q
  · exact Or.inr ⟨q1, q2, qz_S_le hT q3⟩
/-- an act: refused (nothing has changed), or done (the history's last state is the row as it was, and the model's act says the same) -/
def qz_done (N T d : Nat) (X Y : XT) (F : Option (Int32 × XT)) (G : XT → Option (Int32 × XT)) (ref : Int32 → Prop) : Prop :=
  (∃ r : Int32, F = some (r, X) ∧ ref r) ∨ (∃ (r : Int32) (X1 Y2 : XT) (y3 : Nat → Int32), F = some (r, X1) ∧ Y2 1 = Y 1 ∧ G Y2 = some (r, m_up Y2 1 y3) ∧ qz_I (T + d) X1 (m_up Y2 1 y3) ∧ qz_fz X X1 ∧ ∃ h : Nat, qz_top Y (m_up Y2 1 y3) h)
theorem qz_top_up {Y2 : XT} {y3 : Nat → Int32} {h : Nat} (t : qz_top Y Y2 h) : qz_top Y (m_up Y2 1 y3) h := by
  obtain ⟨t1, t2, t3, t4⟩ := t
  exact ⟨t1, t2, by rw [qz_un _ _ (by decide)]; exact t3, fun a ha => by rw [qz_un _ _ (by decide)]; exact t4 a ha⟩
theorem qz_fz_fr {X2 X3 : XT} (h1 : qz_fz X X2) (h2 : qz_fr X2 X3) : qz_fz X X3 := fun i hi => (h2 i (by omega)).trans (h1 i hi)
def qz_Inv (i : Nat) (X Y : XT) : Prop := qz_I (2000 * i) X Y
theorem qz_sameN {X2 Y2 : XT} (hs : qz_same X X2 Y Y2) {n0 p0 f0 e0 t0 b0 : Nat} (h0 : qz_R X (Y 1) n0 p0 f0 e0 t0 b0) {n p f e t b : Nat} (h : qz_R X2 (Y2 1) n p f e t b) : n = n0 := by
  have q1 := qzR_ny h
  rw [hs.2.2.2.2.2.1, qzR_ny h0] at q1
  have a := qzR_nn h
  have c := qzR_nn h0
  exact ((nI_eq (by omega) (by omega)).mp q1).symm
theorem qz_aSubmit (hN : 6000 ≤ N) (hI : qz_I T X Y) {v1 v2 v3 : Int32} (hu : v3 = 0 ∨ v3 = 1) : qz_done N T 0 X Y (f_X7_submit N v1 v2 v3 X) (f_X8_doesSubmit N v1 v2 v3) (fun r => ¬ r = 0 ∧ f_X8_whyNotSubmitted N v1 v2 Y = some (r, Y)) := by
  have hI0 := hI
  obtain ⟨⟨n, p, f, e, t, hR, hfe, hT⟩, _⟩ := hI0
  obtain ⟨r, r1, r2, r3⟩ := qz_refuse (Z := Y) hR (show 200 ≤ N by omega) v1 v2
  rw [qz_ue] at r2
  unfold f_X7_submit
  rw [r1, qz_bi]
  by_cases h0 : r = 0
  · obtain ⟨c0, r0, hc, rfl, hr1, hr2, rfl, hn, hfree⟩ := r3 h0
    obtain ⟨X2, Y2, p1, p2, p3, p4, ⟨h2, p5⟩, p6⟩ := qz_push (N := N) hI hN
    rw [if_pos h0, p1, qz_bv, qz_bis]
    obtain ⟨r4, X3, y3, u1, u2, u3, u4, _⟩ := qz_submitS (Z := Y2) (u := v3) p3.1 (show 200 ≤ N by omega) (fun n2 p2 f2 e2 t2 h2 => by rw [qz_sameN p4 hR h2]; exact hn) hc ⟨hr1, hr2⟩ (by rw [p4.1 20 (by omega)]; exact hfree) hu
    rw [qz_ue] at u2
    exact Or.inr ⟨r4, X3, Y2, y3, u1, p4.2.2.2.2.2.1, u2, qz_I_fr p3 (by omega) u4 (qz_S_le (by omega) u3), qz_fz_fr p6 u4, h2, qz_top_up p5⟩
  · rw [if_neg h0]
    exact Or.inl ⟨r, rfl, h0, r2⟩
theorem qz_aFail (hN : 6000 ≤ N) (hI : qz_I T X Y) {c0 : Nat} (hc : c0 < 12) : qz_done N T 0 X Y (f_X7_fail N (nI c0) X) (f_X8_doesFail N (nI c0)) (fun _ => False) := by
  unfold f_X7_fail
  obtain ⟨X2, Y2, p1, p2, p3, p4, ⟨h2, p5⟩, p6⟩ := qz_push (N := N) hI hN
  rw [qz_isClientC hc, qz_bi, if_neg (by decide), p1, qz_bv, qz_bis]
  obtain ⟨r4, X3, y3, u1, u2, u3, u4, _⟩ := qz_fail (Z := Y2) p3.1 hc (show 200 ≤ N by omega)
  rw [qz_ue] at u2
  exact Or.inr ⟨r4, X3, Y2, y3, u1, p4.2.2.2.2.2.1, u2, qz_I_fr p3 (by omega) u4 (qz_S_le (by omega) u3), qz_fz_fr p6 u4, h2, qz_top_up p5⟩
theorem qz_aWithdraw (hN : 6000 ≤ N) (hI : qz_I T X Y) {c0 : Nat} (hc : c0 < 12) : qz_done N T 0 X Y (f_X7_withdraw N (nI c0) X) (f_X8_doesWithdraw N (nI c0)) (fun r => r = -4 ∧ f_X8_canWithdraw N (nI c0) Y = some (0, Y)) := by
  have hI0 := hI
  obtain ⟨⟨n, p, f, e, t, hR, hfe, hT⟩, _⟩ := hI0
  unfold f_X7_withdraw
  rcases qz_canW (Z := Y) hR hc (show 200 ≤ N by omega) with ⟨w1, w2, k0, w3, w4, w5, w6⟩ | ⟨w1, w2⟩
  · obtain ⟨X2, Y2, p1, p2, p3, p4, ⟨h2, p5⟩, p6⟩ := qz_push (N := N) hI hN
    rw [w1, qz_bi, if_pos rfl, p1, qz_bv, qz_bis]
    obtain ⟨r4, X3, y3, u1, u2, u3, u4, _⟩ := qz_withdraw (Z := Y2) p3.1 hc (show 200 ≤ N by omega) (fun n2 p2 f2 e2 t2 h2 => ⟨k0, by rw [qz_sameN p4 hR h2]; exact w3, by rw [p4.1 20 (by omega)]; exact w4, by rw [p4.2.2.2.2.2.1]; exact w5, by rw [p4.2.2.2.2.2.1]; exact w6⟩)
    rw [qz_ue] at u2
    exact Or.inr ⟨r4, X3, Y2, y3, u1, p4.2.2.2.2.2.1, u2, qz_I_fr p3 (by omega) u4 (qz_S_le (by omega) u3), qz_fz_fr p6 u4, h2, qz_top_up p5⟩
  · rw [qz_ue] at w2
    rw [w1, qz_bi, if_neg (by decide)]
    exact Or.inl ⟨-4, rfl, rfl, w2⟩
theorem qz_aCrash (hN : 6000 ≤ N) (hI : qz_I T X Y) : qz_done N T 0 X Y (f_X7_crash N X) (f_X8_doesCrash N) (fun _ => False) := by
  unfold f_X7_crash
  obtain ⟨X2, Y2, p1, p2, p3, p4, ⟨h2, p5⟩, p6⟩ := qz_push (N := N) hI hN
  rw [p1, qz_bv, qz_bis]
  obtain ⟨r4, X3, y3, u1, u2, u3, u4, _⟩ := qz_crash (Z := Y2) p3.1 (show 200 ≤ N by omega)
  rw [qz_ue] at u2
  exact Or.inr ⟨r4, X3, Y2, y3, u1, p4.2.2.2.2.2.1, u2, qz_I_fr p3 (by omega) u4 (qz_S_le (by omega) u3), qz_fz_fr p6 u4, h2, qz_top_up p5⟩
theorem qz_undoI (hI : qz_I T X Y) (hN : 6000 ≤ N) {h2 : Nat} (h21 : 1 ≤ h2) (h24 : h2 ≤ 4) (h2Y : Y 0 3 = nI h2) : ∃ (r : Nat) (X2 Y2 : XT), r ≤ 4 ∧ f_X7_undo N X = some (nI r, X2) ∧ qz_I T X2 Y2 ∧ (∀ a : Nat, a < 1816 → Y2 1 a = Y 3 (1816 * (h2 - 1) + a)) ∧ qz_fz X X2 := by
  have hI0 := hI
  obtain ⟨hS, hs, ⟨o, h, a1, a2, a3, a4, a5, a6⟩, ⟨l, b1, b2, b3, b4⟩⟩ := hI
  have e0 : h2 = h := by
    rw [a5] at h2Y
    exact ((nI_eq (by omega) (by omega)).mp h2Y).symm
  subst e0
  unfold f_X7_undo f_X2_popInto
  rw [a4]
  have h0 : ¬ h2 = 0 := by omega
  · have hne := nI_ne0 (show 0 < h2 by omega) (by omega)
    have hp : nI h2 - 1 = nI (h2 - 1) := by
      have q := nI_pred (h2 - 1)
      rwa [show h2 - 1 + 1 = h2 by omega] at q
    have hr : nI (o + (h2 - 1)) - nI (o + (h2 - 1)) / 4 * 4 = nI ((o + (h2 - 1)) % 4) := by
      rw [show (4 : Int32) = nI 4 from rfl]
      exact pk_rem (by omega) (by omega) (by omega)
    have hsl := a6 (h2 - 1) (by omega)
    have hsl0 := hsl
    obtain ⟨n, p, f, e, t, hR, hfe, hT⟩ := hsl
    have hX1 : ∀ q : Nat, q ≠ 127 → m_up X 127 (upd (X 127) 2 (nI (h2 - 1))) q = X q := fun q hq => qz_un _ _ hq
    obtain ⟨XC, c1, c2, c3⟩ := qz_copyFrom (N := N) (k1 := 0) (k2 := 2 + (o + (h2 - 1)) % 4) (X := m_up X 127 (upd (X 127) 2 (nI (h2 - 1)))) (by omega) (fun k hk => by rw [hX1 _ (by omega)]; exact qzR_b4 hR k hk) (fun k hk => by rw [hX1 _ (by omega)]; exact qzR_b9 hR k hk)
    have hM := qz_undo22 (N := N) (Y := m_up Y 0 (upd (Y 0) 3 (nI (h2 - 1)))) (s := h2 - 1) (z := Y 1) (by omega) (by rw [qz_up, qz_us]) N 0 (by omega) (by omega)
    rw [qz_c0_0, nI_0, qz_un _ _ (show (3 : Nat) ≠ 0 by decide)] at hM
    have e1 : m_up (m_up Y 0 (upd (Y 0) 3 (nI (h2 - 1)))) 1 (Y 1) = m_up Y 0 (upd (Y 0) 3 (nI (h2 - 1))) := by
      have q := qz_ue (m_up Y 0 (upd (Y 0) 3 (nI (h2 - 1)))) 1
      rwa [qz_un _ _ (show (1 : Nat) ≠ 0 by decide)] at q
    rw [e1] at hM
    have hXf : ∀ q : Nat, 21 ≤ q → q ≠ 127 → XC q = X q := fun q q1 q2 => by rw [c2 q (by omega), hX1 q q2]
    rw [if_neg hne, hp, qz_nm, qz_nm, qz_up, qz_us, qz_stateAt (o := o) (h := h2 - 1) (by rw [qz_up, qz_uo (show (1 : Nat) ≠ 2 by decide)]; exact a3) a1 (by omega), qz_bks, qz_gd (by omega), c1, qz_bv, c2 127 (by omega), qz_up, qz_us, qz_bi]
    refine ⟨h2 - 1, XC, m_up (m_up Y 0 (upd (Y 0) 3 (nI (h2 - 1)))) 1 (qz_c0 (Y 1) (Y 3) (1816 * (h2 - 1)) 0 1816), by omega, rfl, ⟨?_, ?_, ⟨o, h2 - 1, a1, by omega, ?_, ?_, ?_, fun i hi => ?_⟩, ⟨l, b1, ?_, ?_, fun q hq => ?_⟩⟩, fun a ha => ?_, fun i hi => ?_⟩
    · refine qz_S_cp hsl0 ?_ (fun a ha => ?_)
      · have q0 : (fun j => m_up X 127 (upd (X 127) 2 (nI (h2 - 1))) (21 * (2 + (o + (h2 - 1)) % 4) + j)) = fun j => m_up X 127 (upd (X 127) 2 (nI (h2 - 1))) (21 * (2 + (o + (h2 - 1)) % 4) + j) := rfl
        obtain ⟨z0, z1, z10, z151, z152, zr, z18, z19, z20⟩ := c3
        have hx : ∀ j : Nat, j < 21 → m_up X 127 (upd (X 127) 2 (nI (h2 - 1))) (21 * (2 + (o + (h2 - 1)) % 4) + j) = X (21 * (2 + (o + (h2 - 1)) % 4) + j) := fun j hj => hX1 _ (by omega)
        have hy : ∀ j : Nat, XC (21 * 0 + j) = XC j := fun j => by rw [Nat.mul_zero, Nat.zero_add]
        refine ⟨fun s s1 s2 => ?_, ?_, ?_, ?_, ?_, fun i k hi hk => ?_, fun k hk => ?_, fun k hk => ?_, fun k hk => ?_⟩
        · have q : XC (21 * 0 + 0) s = m_up X 127 (upd (X 127) 2 (nI (h2 - 1))) (21 * (2 + (o + (h2 - 1)) % 4) + 0) s := z0 s s1 s2
          rw [hy 0, hx 0 (by omega)] at q
          exact q
        · have q : XC (21 * 0 + 1) 8 = m_up X 127 (upd (X 127) 2 (nI (h2 - 1))) (21 * (2 + (o + (h2 - 1)) % 4) + 1) 8 := z1
          rw [hy 1, hx 1 (by omega)] at q
          exact q
        · have q : XC (21 * 0 + 10) 4 = m_up X 127 (upd (X 127) 2 (nI (h2 - 1))) (21 * (2 + (o + (h2 - 1)) % 4) + 10) 4 := z10
          rw [hy 10, hx 10 (by omega)] at q
          exact q
        · have q : XC (21 * 0 + 15) 1 = m_up X 127 (upd (X 127) 2 (nI (h2 - 1))) (21 * (2 + (o + (h2 - 1)) % 4) + 15) 1 := z151
          rw [hy 15, hx 15 (by omega)] at q
          exact q
        · have q : XC (21 * 0 + 15) 2 = m_up X 127 (upd (X 127) 2 (nI (h2 - 1))) (21 * (2 + (o + (h2 - 1)) % 4) + 15) 2 := z152
          rw [hy 15, hx 15 (by omega)] at q
          exact q
        · have q : XC (21 * 0 + i) k = m_up X 127 (upd (X 127) 2 (nI (h2 - 1))) (21 * (2 + (o + (h2 - 1)) % 4) + i) k := zr i k hi hk
          rw [hy i, hx i (by omega)] at q
          exact q
        · have q : XC (21 * 0 + 18) k = m_up X 127 (upd (X 127) 2 (nI (h2 - 1))) (21 * (2 + (o + (h2 - 1)) % 4) + 18) k := z18 k hk
          rw [hy 18, hx 18 (by omega)] at q
          exact q
        · have q : XC (21 * 0 + 19) k = m_up X 127 (upd (X 127) 2 (nI (h2 - 1))) (21 * (2 + (o + (h2 - 1)) % 4) + 19) k := z19 k hk
          rw [hy 19, hx 19 (by omega)] at q
          exact q
        · have q : XC (21 * 0 + 20) k = m_up X 127 (upd (X 127) 2 (nI (h2 - 1))) (21 * (2 + (o + (h2 - 1)) % 4) + 20) k := z20 k hk
          rw [hy 20, hx 20 (by omega)] at q
          exact q
      · rw [qz_up]
        have q := qz_c0_in (z := Y 1) (y := Y 3) (off := 1816 * (h2 - 1)) (dst := 0) ha
        rwa [Nat.zero_add] at q
    · rcases hs with ⟨u1, u2⟩ | ⟨u1, u2, u3⟩
      · exact Or.inl ⟨by rw [hXf 126 (by omega) (by omega)]; exact u1, by rw [qz_un _ _ (by decide), qz_up, qz_uo (by decide)]; exact u2⟩
      · refine Or.inr ⟨by rw [hXf 126 (by omega) (by omega)]; exact u1, by rw [qz_un _ _ (by decide), qz_up, qz_uo (by decide)]; exact u2, ?_⟩
        exact qz_S_cp u3 (qz_cp_eq (fun j hj => hXf _ (by omega) (by omega))) (fun a _ => by rw [qz_un _ _ (by decide), qz_un _ _ (by decide)])
    · rw [c2 127 (by omega), qz_up, qz_uo (by decide)]; exact a3
    · rw [c2 127 (by omega), qz_up, qz_us]
    · rw [qz_un _ _ (by decide), qz_up, qz_us]
    · refine qz_S_cp (a6 i (by omega)) (qz_cp_eq (fun j hj => hXf _ (by omega) (by omega))) (fun a _ => by rw [qz_un _ _ (by decide), qz_un _ _ (by decide)])
    · rw [hXf 129 (by omega) (by omega)]; exact b2
    · rw [qz_un _ _ (by decide), qz_up, qz_uo (by decide)]; exact b3
    · rw [hXf 130 (by omega) (by omega), qz_un _ _ (show (5 : Nat) ≠ 1 by decide), qz_un _ _ (show (5 : Nat) ≠ 0 by decide)]
      exact b4 q hq
    · rw [qz_up]
      have q := qz_c0_in (z := Y 1) (y := Y 3) (off := 1816 * (h2 - 1)) (dst := 0) ha
      rwa [Nat.zero_add] at q
    · exact hXf i (by omega) (by omega)
end QA
