-- a turn's call and what the law's numbers say of it
section QT1
variable {N T n p c f e t : Nat} {X Y W : XT} {y : Nat → Int32}
theorem qz_aTick (hN : 6000 ≤ N) (hI : qz_I T X Y) (hT : T < 2 ^ 26) {j : Nat} (j1 : 1 ≤ j) (j2 : j ≤ 99) : ∃ (r : Int32) (X1 Y2 : XT) (y3 : Nat → Int32), f_X7_tick N (nI j) X = some (r, X1) ∧ Y2 1 = Y 1 ∧ f_X8_ticks N (nI j) Y2 = some (r, m_up Y2 1 y3) ∧ qz_I (T + j) X1 (m_up Y2 1 y3) ∧ qz_fz X X1 ∧ ∃ h : Nat, qz_top Y (m_up Y2 1 y3) h := by
  unfold f_X7_tick
  obtain ⟨X2, Y2, p1, p2, p3, p4, ⟨h2, p5⟩, p6⟩ := qz_push (N := N) hI hN
  rw [if_neg (show ¬ nI j < 1 from nI_nlt (a := j) (b := 1) (by omega) (by omega)), if_pos (show nI j ≤ 99 from nI_le (a := j) (b := 99) (by omega) (by omega)), p1, qz_bv, qz_bis]
  obtain ⟨r4, X3, y3, u1, u2, u3, u4⟩ := qz_ticks (Z := Y2) j2 (show T < 2 ^ 27 by omega) (show 200 ≤ N by omega) p3.1
  rw [qz_ue] at u2
  exact ⟨r4, X3, Y2, y3, u1, p4.2.2.2.2.2.1, u2, qz_I_fr p3 (by omega) u4 u3, qz_fz_fr p6 u4, h2, qz_top_up p5⟩
theorem qL_fz (hf : qz_fz X W) (hL : qL X y n p) : qL W y n p := by
  obtain ⟨hn, hp, hq, ht, hc, hg⟩ := hL
  refine ⟨hn, hp, ?_, ?_, fun k hk => ?_, fun j hj => ?_⟩
  · rw [hf 131 (by omega)]; exact hq
  · rw [hf 131 (by omega)]; exact ht
  · rw [hf 132 (by omega), hf 133 (by omega), hf 134 (by omega), hf 135 (by omega)]; exact hc k hk
  · rw [hf 136 (by omega), hf 137 (by omega)]; exact hg j hj
def qt_ok (N T : Nat) (kind a b : Int32) (X Y : XT) (n p : Nat) : Prop := ∃ (r : Int32) (X1 Y1 : XT), f_L_call N kind a b X = some (r, X1) ∧ qz_I (T + 40) X1 Y1 ∧ qz_fz X X1 ∧ ((r < 0 ∧ r ≠ -5 ∧ X1 = X ∧ Y1 = Y) ∨ ((¬ r < 0 ∨ r = -5) ∧ ∃ h : Nat, qz_top Y Y1 h)) ∧ ∀ W : XT, qz_fz X W → ∃ (W3 : XT) (n3 p3 : Nat), f_L_due N kind a b W = some (r, W3) ∧ qlo W W3 ∧ qL W3 (Y1 1) n3 p3 ∧ n3 ≤ n + 1
theorem qt_ref {kind a b r : Int32} (hI : qz_I T X Y) (hL : qL X (Y 1) n p) (hcall : f_L_call N kind a b X = some (r, X)) (hr : r < 0) (hr5 : r ≠ -5) (hdue : ∀ W : XT, qL W (Y 1) n p → f_L_due N kind a b W = some (r, W)) : qt_ok N T kind a b X Y n p :=
  ⟨r, X, Y, hcall, qz_I_le (by omega) hI, fun _ _ => rfl, Or.inl ⟨hr, hr5, rfl, rfl⟩, fun W hW => ⟨W, n, p, hdue W (qL_fz hW hL), qlo_rf, qL_fz hW hL, by omega⟩⟩
theorem qt_done {kind a b r : Int32} {d : Nat} {X1 Y2 : XT} {y3 : Nat → Int32} {G : XT → Option (Int32 × XT)} (hL : qL X (Y 1) n p) (hd : d ≤ 40) (hcall : f_L_call N kind a b X = some (r, X1)) (hY : Y2 1 = Y 1) (hG : G Y2 = some (r, m_up Y2 1 y3)) (hI : qz_I (T + d) X1 (m_up Y2 1 y3)) (hf : qz_fz X X1) (ht : ∃ h : Nat, qz_top Y (m_up Y2 1 y3) h) (hlaw : ∀ W : XT, qL W (Y 1) n p → ∃ (r2 : Int32) (W3 : XT) (z3 : Nat → Int32) (n3 p3 : Nat), G (m_up Y2 1 (Y 1)) = some (r2, m_up Y2 1 z3) ∧ f_L_due N kind a b W = some (r2, W3) ∧ qlo W W3 ∧ qL W3 z3 n3 p3 ∧ n3 ≤ n + 1 ∧ (¬ r2 < 0 ∨ r2 = -5)) : qt_ok N T kind a b X Y n p := by
  have eY : m_up Y2 1 (Y 1) = Y2 := by rw [← hY]; exact qz_ue Y2 1
  have hr : ¬ r < 0 ∨ r = -5 := by
    obtain ⟨r2, W3, z3, n3, p3, g1, _, _, _, _, g6⟩ := hlaw X hL
    rw [eY, hG] at g1
    rw [(qm_inj g1).1]
    exact g6
  refine ⟨r, X1, m_up Y2 1 y3, hcall, qz_I_le (by omega) hI, hf, Or.inr ⟨hr, ht⟩, fun W hW => ?_⟩
  obtain ⟨r2, W3, z3, n3, p3, g1, g2, g3, g4, g5, _⟩ := hlaw W (qL_fz hW hL)
  rw [eY, hG] at g1
  obtain ⟨e1, e2⟩ := qm_inj g1
  subst e1
  subst e2
  exact ⟨W3, n3, p3, g2, g3, by rw [qz_up]; exact g4, g5⟩
-- the calls, kind by kind
theorem qd_sub {u v1 v2 : Int32} : f_L_due_17 N u v2 v1 X = f_L_submits N v1 v2 u X := by
  unfold f_L_due_17
  rw [qz_bis]
theorem qt_submit {uu r : Nat} (hu : uu ≤ 1) (hN : 6000 ≤ N) (hI : qz_I T X Y) (hL : qL X (Y 1) n p) (hn : n ≤ 45) (hc : c < 12) (hr : 1 ≤ r ∧ r ≤ 8) : qt_ok N T (nI uu) (nI c) (nI r) X Y n p := by
  have hI0 := hI
  obtain ⟨⟨n2, p2, f, e, t, hR, hfe, hT⟩, _⟩ := hI0
  obtain ⟨en, ep⟩ := qL_np hR hL
  subst en
  subst ep
  have hpn := (qzR_pn hR).2.2 (by decide)
  have hub : nI uu = 0 ∨ nI uu = 1 := by
    rcases (show uu = 0 ∨ uu = 1 by omega) with rfl | rfl
    · exact Or.inl rfl
    · exact Or.inr rfl
  have hcall : f_L_call N (nI uu) (nI c) (nI r) X = f_X7_submit N (nI c) (nI r) (nI uu) X := by
    unfold f_L_call
    rcases (show uu = 0 ∨ uu = 1 by omega) with rfl | rfl
    · rw [if_pos nI_0, if_neg (show ¬ nI 0 = 1 by decide), qz_bis]
      rfl
    · rw [if_neg (show ¬ nI 1 = 0 by decide), if_pos (show nI 1 = 1 from rfl), if_pos (show nI 1 = 1 from rfl), qz_bis]
      rfl
  have hdue : ∀ W : XT, f_L_due N (nI uu) (nI c) (nI r) W = f_L_submits N (nI c) (nI r) (nI uu) W := fun W => by
    unfold f_L_due
    rcases (show uu = 0 ∨ uu = 1 by omega) with rfl | rfl
    · rw [if_neg (show ¬ (2 : Int32) ≤ nI 0 by decide), if_neg (show ¬ nI 0 = 1 by decide), qd_sub]
      rfl
    · rw [if_neg (show ¬ (2 : Int32) ≤ nI 1 by decide), if_pos (show nI 1 = 1 from rfl), qd_sub]
      rfl
  have hw8 : f_X8_within N (nI r) 1 8 Y = some (1, Y) := by
    unfold f_X8_within
    rw [if_neg (show ¬ nI r < 1 from nI_nlt (a := r) (b := 1) (by omega) (by omega)), if_neg (show ¬ (8 : Int32) < nI r from nI_nlt (a := 8) (b := r) (by omega) (by omega))]
  have ho := qz_openM (Z := Y) hR (show 200 ≤ N by omega) hc
  rw [qz_ue] at ho
  rcases qzR_oc hR c hc with ⟨o1, _⟩ | ⟨k, k1, k2, k3, k4⟩
  · rcases qz_aSubmit hN hI hub (v1 := nI c) (v2 := nI r) with ⟨q, q1, q2, q3⟩ | ⟨q, X1, Y2, y3, d1, d2, d3, d4, d5, d6⟩
    · exfalso
      have q4 : f_X8_whyNotSubmitted N (nI c) (nI r) (m_up Y 1 (Y 1)) = some (0, m_up Y 1 (Y 1)) := by
        unfold f_X8_whyNotSubmitted
        have ho2 := qz_openM (Z := Y) hR (show 200 ≤ N by omega) hc
        rw [qz_clientM hc, qz_bi, if_neg qz_10, qz_ue, hw8, qz_bi, if_neg qz_10, ho, qz_bi, o1, if_pos rfl]
        have e := qz_ue Y 1
        have h6 : (m_gd (m_in 6 1816) <| m_nm (m_up Y 1 (Y 1) 1 (Int32.toNatClampNeg 6)) fun y_16 => if y_16 = 150 then (some ((-3 : Int32), m_up Y 1 (Y 1))) else (some (0, m_up Y 1 (Y 1)))) = some (0, m_up Y 1 (Y 1)) := by
          rw [qz_rd (v := 6) (w := 6) rfl (by omega), qzR_ny hR, if_neg (fun z => by
            have := (nI_eq (a := n2) (b := 150) (by omega) (by omega)).mp z
            omega)]
        rw [e] at h6
        exact h6
      rw [qz_ue, q3] at q4
      cases q4
      exact q2 rfl
    · refine qt_done (d := 0) hL (by omega) (hcall.trans d1) d2 d3 d4 d5 d6 (fun W hW => ?_)
      obtain ⟨W3, z3, p3, g1, g2, g3, g4⟩ := qL_submits (T := T) (Z := Y2) hR hW hn (by omega) hc hr hu o1 (show 200 ≤ N by omega)
      exact ⟨nI n2, W3, z3, n2 + 1, p3, g1, (hdue W).trans g2, g3, g4, by omega, Or.inl (nI_pos (by omega))⟩
  · have hF : f_X7_submit N (nI c) (nI r) (nI uu) X = some (-4, X) := by
      obtain ⟨q, q1, q2, _⟩ := qz_refuse (Z := Y) hR (show 200 ≤ N by omega) (nI c) (nI r)
      rw [qz_ue] at q2
      have q4 : f_X8_whyNotSubmitted N (nI c) (nI r) Y = some (-4, Y) := by
        unfold f_X8_whyNotSubmitted
        rw [qz_clientM hc, qz_bi, if_neg qz_10, hw8, qz_bi, if_neg qz_10, ho, qz_bi, k2, if_neg (qz_n5 (by omega))]
      rw [q2] at q4
      cases q4
      unfold f_X7_submit
      rw [q1, qz_bi, if_neg (by decide)]
    exact qt_ref hI hL (hcall.trans hF) (by decide) (by decide) (fun W hW => (hdue W).trans (qL_submitsNo hR hW hc k2 (by omega) (by omega)))
theorem qt_tick {m : Nat} (hm : 1 ≤ m ∧ m ≤ 40) (b : Int32) (hN : 6000 ≤ N) (hT : T < 2 ^ 26) (hI : qz_I T X Y) (hL : qL X (Y 1) n p) : qt_ok N T 2 (nI m) b X Y n p := by
  have hI0 := hI
  obtain ⟨hS, _⟩ := hI0
  have hcall : f_L_call N 2 (nI m) b X = f_X7_tick N (nI m) X := by
    unfold f_L_call
    rw [if_neg (show ¬ (2 : Int32) = 0 by decide), if_neg (show ¬ (2 : Int32) = 1 by decide), if_pos rfl, qz_bis]
  have hdue : ∀ W : XT, f_L_due N 2 (nI m) b W = f_L_ticks_6 N N (nI m) 0 0 W := fun W => by
    unfold f_L_due f_L_ticks
    rw [if_pos (show (2 : Int32) ≤ 2 by decide), if_pos rfl, qz_bis]
  obtain ⟨r, X1, Y2, y3, d1, d2, d3, d4, d5, d6⟩ := qz_aTick hN hI hT hm.1 (show m ≤ 99 by omega)
  refine qt_done (d := m) hL hm.2 (hcall.trans d1) d2 d3 d4 d5 d6 (fun W hW => ?_)
  obtain ⟨q, W3, z3, g1, g2, g3, g4, g5⟩ := qL_ticks (N := N) (Z := Y2) (m := m) (by omega) (by omega) m N 0 T 0 X W (Y 1) (by omega) (by omega) (by omega) (by omega) hS hW
  rw [nI_0] at g1 g2
  exact ⟨nI q, W3, z3, n, p, g1, (hdue W).trans g2, g3, g4, by omega, Or.inl (nI_pos (by omega))⟩
theorem qt_fail (b : Int32) (hN : 6000 ≤ N) (hI : qz_I T X Y) (hL : qL X (Y 1) n p) (hc : c < 12) : qt_ok N T 3 (nI c) b X Y n p := by
  have hI0 := hI
  obtain ⟨⟨n2, p2, f, e, t, hR, hfe, hT⟩, _⟩ := hI0
  obtain ⟨en, ep⟩ := qL_np hR hL
  subst en
  subst ep
  have hcall : f_L_call N 3 (nI c) b X = f_X7_fail N (nI c) X := by
    unfold f_L_call
    rw [if_neg (show ¬ (3 : Int32) = 0 by decide), if_neg (show ¬ (3 : Int32) = 1 by decide), if_neg (show ¬ (3 : Int32) = 2 by decide), if_pos rfl, qz_bis]
  rcases qz_aFail hN hI hc with ⟨q, q1, q2⟩ | ⟨q, X1, Y2, y3, d1, d2, d3, d4, d5, d6⟩
  · exact absurd q2 id
  · refine qt_done (d := 0) hL (by omega) (hcall.trans d1) d2 d3 d4 d5 d6 (fun W hW => ?_)
    obtain ⟨r2, W3, z3, g1, g2, g3, g4, g5⟩ := qL_fail (Z := Y2) (b := b) hR hW hc (show 200 ≤ N by omega)
    exact ⟨r2, W3, z3, n2, p2, g1, g2, g3, g4, by omega, g5⟩
theorem qt_withdraw (b : Int32) (hN : 6000 ≤ N) (hI : qz_I T X Y) (hL : qL X (Y 1) n p) (hc : c < 12) : qt_ok N T 4 (nI c) b X Y n p := by
  have hI0 := hI
  obtain ⟨⟨n2, p2, f, e, t, hR, hfe, hT⟩, _⟩ := hI0
  obtain ⟨en, ep⟩ := qL_np hR hL
  subst en
  subst ep
  have hcall : f_L_call N 4 (nI c) b X = f_X7_withdraw N (nI c) X := by
    unfold f_L_call
    rw [if_neg (show ¬ (4 : Int32) = 0 by decide), if_neg (show ¬ (4 : Int32) = 1 by decide), if_neg (show ¬ (4 : Int32) = 2 by decide), if_neg (show ¬ (4 : Int32) = 3 by decide), if_pos rfl, qz_bis]
  have hcan : ∀ (W : XT) (Z : XT), qL W (Y 1) n2 p2 → (f_X8_canWithdraw N (nI c) (m_up Z 1 (Y 1)) = some (0, m_up Z 1 (Y 1)) ∧ f_L_due N 4 (nI c) b W = some (-4, W)) ∨ ∃ (r : Int32) (X3 : XT) (y3 : Nat → Int32), f_X8_canWithdraw N (nI c) (m_up Z 1 (Y 1)) = some (1, m_up Z 1 (Y 1)) ∧ f_X8_doesWithdraw N (nI c) (m_up Z 1 (Y 1)) = some (r, m_up Z 1 y3) ∧ f_L_due N 4 (nI c) b W = some (r, X3) ∧ qlo W X3 ∧ qL X3 y3 n2 p2 ∧ ¬ r < 0 := fun W Z hW => qL_withdraw hR hW hc (show 200 ≤ N by omega)
  have hne : ∀ {Z : XT} {o : Option (Int32 × XT)}, o = some (0, Z) → o = some (1, Z) → False := fun h1 h2 => by
    rw [h1] at h2
    exact absurd (congrArg Prod.fst (Option.some.inj h2)) (show ¬ (0 : Int32) = 1 by decide)
  rcases qz_canW (N := N) (Z := Y) hR hc (show 200 ≤ N by omega) with ⟨w1, w2, _⟩ | ⟨w1, w2⟩
  · rcases qz_aWithdraw hN hI hc with ⟨q, q1, q2, q3⟩ | ⟨q, X1, Y2, y3, d1, d2, d3, d4, d5, d6⟩
    · rw [qz_ue] at w2
      exact (hne q3 w2).elim
    · refine qt_done (d := 0) hL (by omega) (hcall.trans d1) d2 d3 d4 d5 d6 (fun W hW => ?_)
      rcases hcan W Y hW with ⟨z1, z2⟩ | ⟨_, _, _, z1, _⟩
      · exact (hne z1 w2).elim
      · rcases hcan W Y2 hW with ⟨u1, u2⟩ | ⟨r2, W3, z3, g0, g1, g2, g3, g4, g5⟩
        · rcases qz_canW (N := N) (Z := Y2) hR hc (show 200 ≤ N by omega) with ⟨_, v2, _⟩ | ⟨v1, _⟩
          · exact (hne u1 v2).elim
          · rw [w1] at v1
            exact absurd (congrArg Prod.fst (Option.some.inj v1)) (show ¬ (0 : Int32) = -4 by decide)
        · exact ⟨r2, W3, z3, n2, p2, g1, g2, g3, g4, by omega, Or.inl g5⟩
  · have hF : f_X7_withdraw N (nI c) X = some (-4, X) := by
      unfold f_X7_withdraw
      rw [w1, qz_bi, if_neg (by decide)]
    refine qt_ref hI hL (hcall.trans hF) (by decide) (by decide) (fun W hW => ?_)
    rcases hcan W Y hW with ⟨_, z2⟩ | ⟨_, _, _, z1, _⟩
    · exact z2
    · exact (hne w2 z1).elim
theorem qt_crash (a b : Int32) (hN : 6000 ≤ N) (hI : qz_I T X Y) (hL : qL X (Y 1) n p) : qt_ok N T 6 a b X Y n p := by
  have hI0 := hI
  obtain ⟨⟨n2, p2, f, e, t, hR, hfe, hT⟩, _⟩ := hI0
  obtain ⟨en, ep⟩ := qL_np hR hL
  subst en
  subst ep
  have hcall : f_L_call N 6 a b X = f_X7_crash N X := by
    unfold f_L_call
    rw [if_neg (show ¬ (6 : Int32) = 0 by decide), if_neg (show ¬ (6 : Int32) = 1 by decide), if_neg (show ¬ (6 : Int32) = 2 by decide), if_neg (show ¬ (6 : Int32) = 3 by decide), if_neg (show ¬ (6 : Int32) = 4 by decide), if_neg (show ¬ (6 : Int32) = 5 by decide), qz_bis]
  rcases qz_aCrash hN hI with ⟨q, q1, q2⟩ | ⟨q, X1, Y2, y3, d1, d2, d3, d4, d5, d6⟩
  · exact absurd q2 id
  · refine qt_done (d := 0) hL (by omega) (hcall.trans d1) d2 d3 d4 d5 d6 (fun W hW => ?_)
    obtain ⟨r2, W3, z3, g1, g2, g3, g4, g5⟩ := qL_crash (Z := Y2) (a := a) (b := b) hR hW (show 200 ≤ N by omega)
    exact ⟨r2, W3, z3, n2, p2, g1, g2, g3, g4, by omega, Or.inl g5⟩
theorem qt_set {j : Nat} (hj : j < 4) {b : Int32} (h1 : ¬ b < m_least j) (h2 : ¬ m_greatest j < b) (hb : ¬ b < 0) (hN : 6000 ≤ N) (hI : qz_I T X Y) (hL : qL X (Y 1) n p) : qt_ok N T 5 (nI j) b X Y n p := by
  have hI0 := hI
  obtain ⟨⟨n2, p2, f, e, t, hR, hfe, hT⟩, _⟩ := hI0
  obtain ⟨en, ep⟩ := qL_np hR hL
  subst en
  subst ep
  have hcall : f_L_call N 5 (nI j) b X = f_X7_set N (nI j) b X := by
    unfold f_L_call
    rw [if_neg (show ¬ (5 : Int32) = 0 by decide), if_neg (show ¬ (5 : Int32) = 1 by decide), if_neg (show ¬ (5 : Int32) = 2 by decide), if_neg (show ¬ (5 : Int32) = 3 by decide), if_neg (show ¬ (5 : Int32) = 4 by decide), if_pos rfl, qz_bis]
  obtain ⟨X1, Y2, d1, d2, d4, d5, d6⟩ := qz_aSet hN hI hj h1 h2
  have hpos : ¬ Y 1 (2 + j) < 0 := by
    obtain ⟨_, _, hq, _⟩ := hL
    have hcs : j = 0 ∨ j = 1 ∨ j = 2 ∨ j = 3 := by omega
    rcases hcs with rfl | rfl | rfl | rfl
    · obtain ⟨a, a1, a2⟩ := qzR_s0 hR
      rw [show 2 + 0 = 2 from rfl, a2]
      exact nI_pos (by omega)
    · exact hq.2.2.2.2.2.2.2.2.2.2.2.2.2.2.2.2.2.2.1
    · obtain ⟨a, a1, a2, a3⟩ := qzR_s2 hR
      rw [show 2 + 2 = 4 from rfl, a3]
      exact nI_pos (by omega)
    · exact hq.2.2.2.2.2.2.2.2.2.2.2.2.2.2.2.2.2.2.2
  refine qt_done (d := 0) (G := fun Z => some (Y 1 (2 + j), m_up Z 1 (upd (Y 1) (2 + j) b))) hL (by omega) (hcall.trans d1) d2 rfl d4 d5 d6 (fun W hW => ?_)
  obtain ⟨g1, g2⟩ := qL_set (b := b) hW hj hb
  exact ⟨Y 1 (2 + j), _, upd (Y 1) (2 + j) b, n2, p2, by rw [qz_uu], g1, qlo_up (by omega), g2, by omega, Or.inl hpos⟩
end QT1
