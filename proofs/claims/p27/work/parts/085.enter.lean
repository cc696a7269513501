-- a commit is submitted
section QE
variable {X Z : XT} {y : Nat → Int32} {N n p f e t b c0 k0 j0 r0 T : Nat} {u : Int32}
def qz_addX (X : XT) (n c0 j0 : Nat) (v1 v2 u : Int32) : XT := m_up (m_up (m_up (m_up (m_up (m_up (m_up (m_up (m_up (m_up (m_up (m_up (m_up X 1 (upd (X 1) 8 (nI (n + 1)))) 2 (upd (X 2) n v1)) 3 (upd (X 3) n v2)) 4 (upd (X 4) n u)) 5 (upd (X 5) n 1)) 6 (upd (X 6) n (X 0 6))) 7 (upd (X 7) n (-5))) 8 (upd (X 8) n (nI j0))) 9 (upd (X 9) n 1)) 12 (upd (X 12) j0 (X 12 j0 + 1))) 13 (upd (X 13) j0 (X 13 j0 + v2))) 20 (upd (X 20) c0 (nI n))) 19 (upd (X 19) 0 (X 19 0 + 1))
def qz_addY (y : Nat → Int32) (n j0 : Nat) (v1 v2 u : Int32) : Nat → Int32 := upd (upd (upd (upd (upd (upd (upd (upd (upd y 6 (nI (n + 1))) (16 + 8 * n + 0) v1) (16 + 8 * n + 1) v2) (16 + 8 * n + 2) u) (16 + 8 * n + 3) 1) (16 + 8 * n + 4) (y 0)) (16 + 8 * n + 5) (-5)) (16 + 8 * n + 6) (nI j0)) (16 + 8 * n + 7) 1
theorem qz_addY_o {v1 v2 : Int32} {a : Nat} (h6 : a ≠ 6) (h : a < 16 + 8 * n ∨ 16 + 8 * n + 8 ≤ a) : qz_addY y n j0 v1 v2 u a = y a := by
  unfold qz_addY
  rw [qz_uo (by omega), qz_uo (by omega), qz_uo (by omega), qz_uo (by omega), qz_uo (by omega), qz_uo (by omega), qz_uo (by omega), qz_uo (by omega), qz_uo h6]
theorem qz_addY_6 {v1 v2 : Int32} : qz_addY y n j0 v1 v2 u 6 = nI (n + 1) := by
  unfold qz_addY
  rw [qz_uo (by omega), qz_uo (by omega), qz_uo (by omega), qz_uo (by omega), qz_uo (by omega), qz_uo (by omega), qz_uo (by omega), qz_uo (by omega), qz_us]
theorem qz_addY_n {v1 v2 : Int32} (w : Nat) (hw : w < 8) : qz_addY y n j0 v1 v2 u (16 + 8 * n + w) = (match w with | 0 => v1 | 1 => v2 | 2 => u | 3 => 1 | 4 => y 0 | 5 => -5 | 6 => nI j0 | _ => 1) := by
  unfold qz_addY
  match w, hw with
  | 0, _ => (rw [qz_uo (by omega), qz_uo (by omega), qz_uo (by omega), qz_uo (by omega), qz_uo (by omega), qz_uo (by omega), qz_uo (by omega), qz_us]; rfl)
  | 1, _ => (rw [qz_uo (by omega), qz_uo (by omega), qz_uo (by omega), qz_uo (by omega), qz_uo (by omega), qz_uo (by omega), qz_us]; rfl)
  | 2, _ => (rw [qz_uo (by omega), qz_uo (by omega), qz_uo (by omega), qz_uo (by omega), qz_uo (by omega), qz_us]; rfl)
  | 3, _ => (rw [qz_uo (by omega), qz_uo (by omega), qz_uo (by omega), qz_uo (by omega), qz_us]; rfl)
  | 4, _ => (rw [qz_uo (by omega), qz_uo (by omega), qz_uo (by omega), qz_us]; rfl)
  | 5, _ => (rw [qz_uo (by omega), qz_uo (by omega), qz_us]; rfl)
  | 6, _ => (rw [qz_uo (by omega), qz_us]; rfl)
  | 7, _ => (rw [qz_us]; rfl)
theorem qz_bool (hu : u = 0 ∨ u = 1) : vp_nar .boolean u = u := by rcases hu with rfl | rfl <;> decide
abbrev qz_tailC (N n : Nat) (u : Int32) (W : XT) : Option (Int32 × XT) := m_bi (f_X1_recordsOf N (W 0 8) W) fun r_18 X_18 => m_bi (f_X3_reasonToClose N u r_18 (X_18 0 9) X_18) fun r_20 X_20 => if r_20 = 0 then (some (nI n, X_20)) else (m_bv (f_X3_closeGathering N r_20 X_20) fun X_25 => m_bv (f_X3_startWriting N X_25) fun X_27 => some (nI n, X_27))
theorem qz_addC (h : qz_R X y n p f e t b) (hn : n < 150) (hj0 : j0 < p) (h8 : y 8 = nI j0) (hc : c0 < 12) (hu : u = 0 ∨ u = 1) : f_X3_enter_13 N (nI c0) (nI r0) u X = qz_tailC N n u (qz_addX X n c0 j0 (nI c0) (nI r0) u) := by
  have hp0 := (qzR_pn h).1
  unfold f_X3_enter_13 f_X0_add f_X0_isFull
  rw [qzR_nx h, show (150 : Int32) = nI 150 from rfl, if_pos (nI_lt hn (by omega)), qz_bi, if_pos rfl, qz_bool hu, qz_bool (Or.inr rfl), qzR_nx h, nI_1]
  simp only [nI_clamp (show n < 2 ^ 31 by omega)]
  rw [qz_nm (nI (n + 1)), qz_nm, qz_gd (qz_in hn (by omega)), qz_nm, qz_gd (qz_in hn (by omega)), qz_nm, qz_gd (qz_in hn (by omega)), qz_nm, qz_gd (qz_in hn (by omega)), qz_nm, qz_gd (qz_in hn (by omega)), qz_nm, qz_gd (qz_in hn (by omega)), qz_nm, qz_gd (qz_in hn (by omega)), qz_nm, qz_gd (qz_in hn (by omega)), qz_nm, qz_bi, qzR_gx h, h8]
  simp only [qz_un _ _ (show (2 : Nat) ≠ 1 by decide), qz_un _ _ (show (3 : Nat) ≠ 1 by decide), qz_un _ _ (show (3 : Nat) ≠ 2 by decide), qz_un _ _ (show (4 : Nat) ≠ 1 by decide), qz_un _ _ (show (4 : Nat) ≠ 2 by decide), qz_un _ _ (show (4 : Nat) ≠ 3 by decide), qz_un _ _ (show (5 : Nat) ≠ 1 by decide), qz_un _ _ (show (5 : Nat) ≠ 2 by decide), qz_un _ _ (show (5 : Nat) ≠ 3 by decide), qz_un _ _ (show (5 : Nat) ≠ 4 by decide), qz_un _ _ (show (6 : Nat) ≠ 1 by decide), qz_un _ _ (show (6 : Nat) ≠ 2 by decide), qz_un _ _ (show (6 : Nat) ≠ 3 by decide), qz_un _ _ (show (6 : Nat) ≠ 4 by decide), qz_un _ _ (show (6 : Nat) ≠ 5 by decide), qz_un _ _ (show (7 : Nat) ≠ 1 by decide), qz_un _ _ (show (7 : Nat) ≠ 2 by decide), qz_un _ _ (show (7 : Nat) ≠ 3 by decide), qz_un _ _ (show (7 : Nat) ≠ 4 by decide), qz_un _ _ (show (7 : Nat) ≠ 5 by decide), qz_un _ _ (show (7 : Nat) ≠ 6 by decide), qz_un _ _ (show (8 : Nat) ≠ 1 by decide), qz_un _ _ (show (8 : Nat) ≠ 2 by decide), qz_un _ _ (show (8 : Nat) ≠ 3 by decide), qz_un _ _ (show (8 : Nat) ≠ 4 by decide), qz_un _ _ (show (8 : Nat) ≠ 5 by decide), qz_un _ _ (show (8 : Nat) ≠ 6 by decide), qz_un _ _ (show (8 : Nat) ≠ 7 by decide), qz_un _ _ (show (9 : Nat) ≠ 1 by decide), qz_un _ _ (show (9 : Nat) ≠ 2 by decide), qz_un _ _ (show (9 : Nat) ≠ 3 by decide), qz_un _ _ (show (9 : Nat) ≠ 4 by decide), qz_un _ _ (show (9 : Nat) ≠ 5 by decide), qz_un _ _ (show (9 : Nat) ≠ 6 by decide), qz_un _ _ (show (9 : Nat) ≠ 7 by decide), qz_un _ _ (show (9 : Nat) ≠ 8 by decide), qz_un _ _ (show (0 : Nat) ≠ 1 by decide), qz_un _ _ (show (0 : Nat) ≠ 2 by decide), qz_un _ _ (show (0 : Nat) ≠ 3 by decide), qz_un _ _ (show (0 : Nat) ≠ 4 by decide), qz_un _ _ (show (0 : Nat) ≠ 5 by decide), qz_un _ _ (show (0 : Nat) ≠ 6 by decide), qz_un _ _ (show (0 : Nat) ≠ 7 by decide), qz_un _ _ (show (0 : Nat) ≠ 8 by decide), qz_un _ _ (show (0 : Nat) ≠ 9 by decide)]
  rw [qzR_gx h, h8, qz_join (p := p) (by simp only [m_up]; exact qzR_px h) hj0 hp0, qz_bv, qz_setOpen hc, qz_bv, qz_rdc (show (0 : Int32) = nI 0 from rfl) (show 0 < 8 by omega), qz_nm, qz_gd (qz_in' (show (0 : Int32) = nI 0 from rfl) (show 0 < 8 by omega) (by omega)), qz_nm, qz_cl' (show (0 : Int32) = nI 0 from rfl) (by omega)]
  rfl
abbrev qz_tailM (N n j0 : Nat) (u : Int32) (W : XT) : Option (Int32 × XT) := if u = 0 then (m_bi (f_X8_recordsOf N (nI j0) W) fun r_46 X_46 => m_gd (m_in 3 1816) <| m_nm (X_46 1 (Int32.toNatClampNeg 3)) fun y_48 => if r_46 < y_48 then (m_bi (f_X8_isLate N X_46) fun r_54 X_54 => if r_54 = 0 then (f_X8_doesSubmit_168 N (nI n) 0 X_54) else (f_X8_doesSubmit_168 N (nI n) 3 X_54)) else (f_X8_doesSubmit_168 N (nI n) 2 X_46)) else (f_X8_doesSubmit_168 N (nI n) 1 W)
theorem qz_addM (h : qz_R X y n p f e t b) (hn : n < 150) (hu : u = 0 ∨ u = 1) {v1 v2 : Int32} : f_X8_doesSubmit_26 N v1 v2 u (nI j0) (m_up Z 1 y) = qz_tailM N n j0 u (m_up Z 1 (qz_addY y n j0 v1 v2 u)) := by
  unfold f_X8_doesSubmit_26
  rw [qz_rd (v := 6) (w := 6) rfl (by omega), qz_rd (v := 6) (w := 6) rfl (by omega), qzR_ny h, qz_nm, nI_1, qz_wr (v := 6) (w := 6) rfl (by omega), qz_setOf (v := 0) (w := 0) rfl hn (by omega), qz_bv, qz_setOf (v := 1) (w := 1) rfl hn (by omega), qz_bv]
  have key : ∀ q : Int32, f_X8_doesSubmit_77 N u (nI j0) (nI n) q 2 (nI n) (m_up Z 1 (upd (upd (upd y 6 (nI (n + 1))) (16 + 8 * n + 0) v1) (16 + 8 * n + 1) v2)) = qz_tailM N n j0 u (m_up Z 1 (qz_addY y n j0 v1 v2 q)) := by
    intro q
    unfold f_X8_doesSubmit_77
    rw [qz_setOf (v := 2) (w := 2) rfl hn (by omega), qz_bv, qz_setOf (v := 3) (w := 3) rfl hn (by omega), qz_bv, qz_rd (v := 0) (w := 0) rfl (by omega), qz_setOf (v := 4) (w := 4) rfl hn (by omega), qz_bv, qz_setOf (v := 5) (w := 5) rfl hn (by omega), qz_bv, qz_setOf (v := 6) (w := 6) rfl hn (by omega), qz_bv, qz_setOf (v := 7) (w := 7) rfl hn (by omega), qz_bv]
    rw [qz_uo (show 0 ≠ 16 + 8 * n + 3 by omega), qz_uo (show 0 ≠ 16 + 8 * n + 2 by omega), qz_uo (show 0 ≠ 16 + 8 * n + 1 by omega), qz_uo (show 0 ≠ 16 + 8 * n + 0 by omega), qz_uo (show 0 ≠ 6 by omega)]
    rfl
  rcases hu with q | q
  · rw [if_pos q, key 0]
    rw [show qz_addY y n j0 v1 v2 0 = qz_addY y n j0 v1 v2 u by rw [q]]
  · rw [if_neg (by rw [q]; decide), key 1]
    rw [show qz_addY y n j0 v1 v2 1 = qz_addY y n j0 v1 v2 u by rw [q]]
set_option maxHeartbeats 4000000 in
theorem qz_addR (h : qz_R X y n p f e t b) (hb : b ≠ 2) (hn : n < 150) (hj0 : j0 + 1 = p) (h8 : y 8 = nI j0) (hst : y (1216 + 4 * j0 + 0) = 1) (hc : c0 < 12) (hfree : X 20 c0 = -5) (hr0 : 1 ≤ r0 ∧ r0 ≤ 8) (hu : u = 0 ∨ u = 1) : qz_R (qz_addX X n c0 j0 (nI c0) (nI r0) u) (qz_addY y n j0 (nI c0) (nI r0) u) (n + 1) p f e t 0 := by
  have hp0 := (qzR_pn h).1
  refine qzo_add (x := X) (y := y) (j0 := j0) (c0 := c0) (r0 := r0) (u := u) h ?_ ?_ ?_ ?_ ?_ hn hb hj0 h8 hst hc hr0 hu rfl qz_addY_6 ?_ ?_ (qz_addY_n 0 (by omega)) (qz_addY_n 1 (by omega)) (qz_addY_n 2 (by omega)) (qz_addY_n 3 (by omega)) (qz_addY_n 6 (by omega)) (qz_addY_n 7 (by omega)) ?_ ?_ ?_ ?_ ?_ ?_
  · intro i hi i1 i2 i3 i4 i5 i6 i7 i8 i9 i12 i13 i19 i20
    unfold qz_addX
    rw [qz_un _ _ i19, qz_un _ _ i20, qz_un _ _ i13, qz_un _ _ i12, qz_un _ _ i9, qz_un _ _ i8, qz_un _ _ i7, qz_un _ _ i6, qz_un _ _ i5, qz_un _ _ i4, qz_un _ _ i3, qz_un _ _ i2, qz_un _ _ i1]
  · intro s s1
    show upd (X 1) 8 (nI (n + 1)) s = X 1 s
    exact qz_uo s1
  · intro s s1
    show upd (X 19) 0 (X 19 0 + 1) s = X 19 s
    exact qz_uo s1
  · intro a a1 a2
    exact qz_addY_o a2 (by omega)
  · intro j w k1 k2
    exact qz_addY_o (by omega) (by omega)
  · show upd (X 19) 0 (X 19 0 + 1) 0 = _
    rw [qz_us, qz_addY_6, qzR_t0 h, qzR_ny h, nI_1]
  · intro k w k1 k2
    exact qz_addY_o (by omega) (by omega)
  · intro i k i2 i9 hk
    have hc : i = 2 ∨ i = 3 ∨ i = 4 ∨ i = 5 ∨ i = 6 ∨ i = 7 ∨ i = 8 ∨ i = 9 := by omega
    rcases hc with rfl | rfl | rfl | rfl | rfl | rfl | rfl | rfl <;> exact qz_uo hk
  · intro i hi
    rw [qz_addY_n i hi]
    have hc : i = 0 ∨ i = 1 ∨ i = 2 ∨ i = 3 ∨ i = 4 ∨ i = 5 ∨ i = 6 ∨ i = 7 := by omega
    rcases hc with rfl | rfl | rfl | rfl | rfl | rfl | rfl | rfl
    · exact qz_us
    · exact qz_us
    · exact qz_us
    · exact qz_us
    · show upd (X 6) n (X 0 6) n = y 0
      rw [qz_us, qzR_tx h, qzR_ty h]
    · exact qz_us
    · exact qz_us
    · exact qz_us
  · intro j
    show upd (X 12) j0 (X 12 j0 + 1) j = _
    by_cases q : j = j0
    · rw [if_pos q, q, qz_us]
    · rw [if_neg q, qz_uo q]
  · intro j
    show upd (X 13) j0 (X 13 j0 + nI r0) j = _
    by_cases q : j = j0
    · rw [if_pos q, q, qz_us]
    · rw [if_neg q, qz_uo q]
  · intro c
    rfl
  · intro k hk hop
    rcases qzR_oc h c0 hc with ⟨_, q2⟩ | ⟨k2, q1, q2, _⟩
    · exact q2 k hk hop
    · exact absurd (q2.symm.trans hfree) (qz_n5 (by omega))
def qz_entered (XM X3 : XT) (yM y3 : Nat → Int32) (n p f f3 e e3 t j0 : Nat) (u : Int32) : Prop :=
  (u = 0 ∧ XM 13 j0 < XM 18 1 ∧ XM 0 6 < XM 0 9 ∧ X3 = XM ∧ y3 = yM ∧ f3 = f ∧ e3 = e) ∨
  ((u = 0 → XM 13 j0 < XM 18 1 → ¬ XM 0 6 < XM 0 9) ∧ e3 = e + 1 ∧ ∃ (X1 : XT) (y1 : Nat → Int32), qz_closed XM X1 yM y1 j0 e ∧ qz_R X1 y1 n p f (e + 1) t 0 ∧ qz_started X1 X3 y1 y3 p f f3 (e + 1))
theorem qz_entTail {v : Nat} (h : qz_R X y n p f e t 0) (hfe : y 9 = -5 → f = e) (hN : 200 ≤ N) (hj0 : j0 < p) (h8 : y 8 = nI j0) (hu : u = 0 ∨ u = 1) : ∃ (X3 : XT) (y3 : Nat → Int32) (f3 e3 : Nat), qz_tailC N v u X = some (nI v, X3) ∧ qz_tailM N v j0 u (m_up Z 1 y) = some (nI v, m_up Z 1 y3) ∧ qz_R X3 y3 n p f3 e3 t 0 ∧ (y3 9 = -5 → f3 = e3) ∧ qz_fr X X3 ∧ qz_entered X X3 y y3 n p f f3 e e3 t j0 u := by
  have hp0 := (qzR_pn h).1
  have hn0 := qzR_nn h
  -- the case that the group is closed, for any reason
  have hclose : ∀ r : Int32, ¬ r = 0 → ¬ r ≤ 0 → (u = 0 → X 13 j0 < X 18 1 → ¬ X 0 6 < X 0 9) → ∃ (X3 : XT) (y3 : Nat → Int32) (f3 e3 : Nat), (m_bv (f_X3_closeGathering N r X) fun X_25 => m_bv (f_X3_startWriting N X_25) fun X_27 => some (nI v, X_27)) = some (nI v, X3) ∧ f_X8_doesSubmit_168 N (nI v) r (m_up Z 1 y) = some (nI v, m_up Z 1 y3) ∧ qz_R X3 y3 n p f3 e3 t 0 ∧ (y3 9 = -5 → f3 = e3) ∧ qz_fr X X3 ∧ qz_entered X X3 y y3 n p f f3 e e3 t j0 u := by
    intro r _ hr hq
    obtain ⟨X1, y1, c1, c2, c3, c4, c5⟩ := qz_close (Z := Z) (r := r) h hN h8 (by omega)
    obtain ⟨X3, y3, f3, s1, s2, s3, s4, s5, s6⟩ := qz_startWriting (Z := Z) c3 hN
    refine ⟨X3, y3, f3, e + 1, ?_, ?_, s3, s5, qz_fr_tr c4 s4, Or.inr ⟨hq, rfl, X1, y1, c5, c3, s6⟩⟩
    · rw [c1, qz_bv, s1, qz_bv]
    · unfold f_X8_doesSubmit_168
      rw [if_neg hr, c2, s2, qz_bv]
  have hga : X 0 9 = y (1216 + 4 * j0 + 1) := by
    rcases qzR_ga h with q | ⟨j, q1, q2, q3, q4, _⟩
    · exact absurd (q.symm.trans h8) (qz_5n (by omega))
    · rw [h8, nI_eq (by omega) (by omega)] at q2
      rw [q2]; exact q4
  unfold qz_tailC qz_tailM
  rw [qzR_gx h, h8, qz_recordsG (qzR_px h) hj0 hp0, qz_bi]
  unfold f_X3_reasonToClose
  by_cases hu0 : u = 0
  · rw [if_pos hu0, if_pos hu0, qz_valueOf (v := 1) (i := 1) rfl (by omega), qz_bi, qz_records (qzR_ny h) hn0 hN, qz_bi, qz_rd (v := 3) (w := 3) rfl (by omega), qzR_g13 h j0 hj0, qzR_sx h 1 (by omega)]
    by_cases h1 : qz_rec y n (nI j0) < y (2 + 1)
    · rw [if_pos h1, if_pos h1]
      unfold f_X8_isLate
      rw [qz_rd (v := 8) (w := 8) rfl (by omega), if_neg (show ¬ y 8 = -5 by rw [h8]; exact qz_n5 (by omega)), qz_rd (v := 8) (w := 8) rfl (by omega), h8, qz_ofG (v := 1) (w := 1) rfl (by omega) (by omega), qz_bi (y (1216 + 4 * j0 + 1)), qz_rd (v := 0) (w := 0) rfl (by omega), ← hga, qzR_tx h, qzR_ty h]
      by_cases h2 : nI t < X 0 9
      · rw [if_pos h2, if_pos h2, qz_bi, qz_bi, if_pos rfl, if_pos rfl]
        unfold f_X8_doesSubmit_168
        rw [if_pos (by decide)]
        refine ⟨X, y, f, e, rfl, rfl, h, hfe, qz_fr_rf, Or.inl ⟨hu0, ?_, ?_, rfl, rfl, rfl, rfl⟩⟩
        · rw [qzR_g13 h j0 hj0, qzR_sx h 1 (by omega)]; exact h1
        · rw [qzR_tx h]; exact h2
      · rw [if_neg h2, if_neg h2, qz_bi, qz_bi, if_neg (by decide), if_neg (by decide)]
        exact hclose 3 (by decide) (by decide) (fun _ _ => by rw [qzR_tx h]; exact h2)
    · rw [if_neg h1, if_neg h1, qz_bi, if_neg (by decide)]
      exact hclose 2 (by decide) (by decide) (fun _ q => absurd (by rw [qzR_g13 h j0 hj0, qzR_sx h 1 (by omega)] at q; exact q) h1)
  · rw [if_neg hu0, if_neg hu0, qz_bi, if_neg (by decide)]
    exact hclose 1 (by decide) (by decide) (fun q => absurd q hu0)
end QE
