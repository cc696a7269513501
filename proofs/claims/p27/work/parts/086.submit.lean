-- submit, with a group that may begin
section QSU
variable {X Z : XT} {y : Nat → Int32} {N n p f e t b c0 k0 j0 r0 T : Nat} {u : Int32}
def qz_begX (X : XT) (p : Nat) : XT := m_up (m_up (m_up (m_up (m_up (m_up (m_up (m_up X 10 (upd (X 10) 4 (nI (p + 1)))) 11 (upd (X 11) p 1)) 12 (upd (X 12) p 0)) 13 (upd (X 13) p 0)) 14 (upd (X 14) p 0)) 0 (upd (X 0) 8 (nI p))) 0 (upd (upd (X 0) 8 (nI p)) 9 (X 0 6 + X 0 7))) 19 (upd (X 19) 4 (X 19 4 + 1))
def qz_begY (y : Nat → Int32) (p : Nat) : Nat → Int32 := upd (upd (upd (upd y 7 (nI (p + 1))) 8 (nI p)) (1216 + 4 * p + 0) 1) (1216 + 4 * p + 1) (y 0 + y 1)
theorem qz_beginC (h : qz_R X y n p f e t b) (hp : p < 150) : f_X3_beginGroup N X = some (qz_begX X p) := by
  unfold f_X3_beginGroup f_X1_begin
  rw [qzR_px h, show (150 : Int32) = nI 150 from rfl, if_pos (nI_lt hp (by omega)), nI_1]
  simp only [nI_clamp (show p < 2 ^ 31 by omega)]
  rw [qz_nm (nI (p + 1)), qz_nm, qz_gd (qz_in hp (by omega)), qz_nm, qz_gd (qz_in hp (by omega)), qz_nm, qz_gd (qz_in hp (by omega)), qz_nm, qz_gd (qz_in hp (by omega)), qz_nm, qz_bi, qz_nm, qz_nm, qz_nm, qz_rdc (show (4 : Int32) = nI 4 from rfl) (show 4 < 8 by omega), qz_nm, qz_gd (qz_in' (show (4 : Int32) = nI 4 from rfl) (show 4 < 8 by omega) (by omega)), qz_nm, qz_cl' (show (4 : Int32) = nI 4 from rfl) (by omega)]
  rfl
theorem qz_beginM (h : qz_R X y n p f e t b) (hp : p < 150) : f_X8_begin N (m_up Z 1 y) = some (nI p, m_up Z 1 (qz_begY y p)) := by
  unfold f_X8_begin
  rw [qz_rd (v := 7) (w := 7) rfl (by omega), qz_rd (v := 7) (w := 7) rfl (by omega), qzR_py h, qz_nm, nI_1, qz_wr (v := 7) (w := 7) rfl (by omega), qz_wr (v := 8) (w := 8) rfl (by omega), qz_setG (v := 0) (w := 0) rfl (by omega) (by omega), qz_bv, qz_rd (v := 0) (w := 0) rfl (by omega), qz_rd (v := 1) (w := 1) rfl (by omega), qz_nm, qz_setG (v := 1) (w := 1) rfl (by omega) (by omega), qz_bv, qz_uo (show 0 ≠ 1216 + 4 * p + 0 by omega), qz_uo (show 0 ≠ 8 by omega), qz_uo (show 0 ≠ 7 by omega), qz_uo (show 1 ≠ 1216 + 4 * p + 0 by omega), qz_uo (show 1 ≠ 8 by omega), qz_uo (show 1 ≠ 7 by omega)]
  rfl
theorem qz_begY_o {a : Nat} (h7 : a ≠ 7) (h8 : a ≠ 8) (h : a ≠ 1216 + 4 * p + 0) (h1 : a ≠ 1216 + 4 * p + 1) : qz_begY y p a = y a := by
  unfold qz_begY
  rw [qz_uo h1, qz_uo h, qz_uo h8, qz_uo h7]
set_option maxHeartbeats 4000000 in
theorem qz_beginR (h : qz_R X y n p f e t 0) (hn : n < 150) (h8 : y 8 = -5) : qz_R (qz_begX X p) (qz_begY y p) n (p + 1) f e t 1 := by
  have hpn := (qzR_pn h).2.2 (by decide)
  obtain ⟨w, w1, w2⟩ := qzR_wr h
  have e8 : qz_begY y p 8 = nI p := by
    unfold qz_begY
    rw [qz_uo (by omega), qz_uo (by omega), qz_us]
  have e7 : qz_begY y p 7 = nI (p + 1) := by
    unfold qz_begY
    rw [qz_uo (by omega), qz_uo (by omega), qz_uo (by omega), qz_us]
  refine qzo_begin (x := X) (y := y) (v := X 0 6 + X 0 7) h ?_ ?_ ?_ ?_ ?_ ?_ ?_ (by omega) hpn (by omega) h8 rfl e7 ?_ rfl e8 ?_ ?_ ?_ ?_ ?_ ?_ rfl ⟨t + w, by omega, by rw [qzR_tx h, qzR_wx h, w2, nI_add]⟩
  · intro i hi i0 i10 i11 i12 i13 i14 i19
    unfold qz_begX
    rw [qz_un _ _ i19, qz_un _ _ i0, qz_un _ _ i0, qz_un _ _ i14, qz_un _ _ i13, qz_un _ _ i12, qz_un _ _ i11, qz_un _ _ i10]
  · intro s s1 s2
    show upd (upd (X 0) 8 (nI p)) 9 (X 0 6 + X 0 7) s = X 0 s
    rw [qz_uo s2, qz_uo s1]
  · intro s s1
    show upd (X 10) 4 (nI (p + 1)) s = X 10 s
    exact qz_uo s1
  · intro s s1
    show upd (X 19) 4 (X 19 4 + 1) s = X 19 s
    exact qz_uo s1
  · intro a a1 a7 a8
    exact qz_begY_o a7 a8 (by omega) (by omega)
  · intro k w k1 k2
    exact qz_begY_o (by omega) (by omega) (by omega) (by omega)
  · intro j w k1 k2 k3 k4
    exact qz_begY_o (by omega) (by omega) (by omega) (by omega)
  · show upd (X 19) 4 (X 19 4 + 1) 4 = _
    rw [qz_us, e7, qzR_t4 h, qzR_py h, nI_1]
  · intro j
    rfl
  · intro j
    rfl
  · intro j
    rfl
  · intro j
    rfl
  · intro j hj
    unfold qz_begY
    rw [qz_uo (by omega)]
    by_cases q : j = p
    · rw [if_pos q, q, qz_us]
    · rw [if_neg q, qz_uo (by omega), qz_uo (by omega), qz_uo (by omega)]
  · unfold qz_begY
    rw [qz_us, qzR_tx h, qzR_ty h, qzR_wx h]
theorem qz_fr_addX {v1 v2 : Int32} : qz_fr X (qz_addX X n c0 j0 v1 v2 u) := by
  intro i hi
  unfold qz_addX
  rw [qz_un _ _ (by omega), qz_un _ _ (by omega), qz_un _ _ (by omega), qz_un _ _ (by omega), qz_un _ _ (by omega), qz_un _ _ (by omega), qz_un _ _ (by omega), qz_un _ _ (by omega), qz_un _ _ (by omega), qz_un _ _ (by omega), qz_un _ _ (by omega), qz_un _ _ (by omega), qz_un _ _ (by omega)]
theorem qz_fr_begX : qz_fr X (qz_begX X p) := by
  intro i hi
  unfold qz_begX
  rw [qz_un _ _ (by omega), qz_un _ _ (by omega), qz_un _ _ (by omega), qz_un _ _ (by omega), qz_un _ _ (by omega), qz_un _ _ (by omega), qz_un _ _ (by omega), qz_un _ _ (by omega)]
/-- the state right behind the adding, and the state behind it all -/
theorem qz_submit (h : qz_R X y n p f e t 0) (hfe : y 9 = -5 → f = e) (hN : 200 ≤ N) (hn : n < 150) (hc : c0 < 12) (hr0 : 1 ≤ r0 ∧ r0 ≤ 8) (hfree : X 20 c0 = -5) (hu : u = 0 ∨ u = 1) :
    ∃ (X3 : XT) (y3 : Nat → Int32) (p3 f3 e3 j0 : Nat) (XM : XT) (yM : Nat → Int32), f_X3_enter N (nI c0) (nI r0) u X = some (nI n, X3) ∧ f_X8_doesSubmit N (nI c0) (nI r0) u (m_up Z 1 y) = some (nI n, m_up Z 1 y3) ∧ qz_R X3 y3 (n + 1) p3 f3 e3 t 0 ∧ (y3 9 = -5 → f3 = e3) ∧ qz_fr X X3 ∧ qz_R XM yM (n + 1) p3 f e t 0 ∧ (yM 9 = -5 → f = e) ∧ j0 + 1 = p3 ∧ yM 8 = nI j0 ∧ qz_entered XM X3 yM y3 (n + 1) p3 f f3 e e3 t j0 u ∧ XM 20 c0 = nI n ∧ XM 8 n = nI j0 ∧
      ((X 0 8 = nI j0 ∧ XM = qz_addX X n c0 j0 (nI c0) (nI r0) u) ∨ (X 0 8 = -5 ∧ j0 = p ∧ XM = qz_addX (qz_begX X p) n c0 p (nI c0) (nI r0) u)) := by
  have hp0 := (qzR_pn h).1
  have hpn := (qzR_pn h).2.2 (by decide)
  unfold f_X3_enter f_X8_doesSubmit
  rw [qz_rd (v := 8) (w := 8) rfl (by omega), qzR_gx h]
  rcases qzR_ga h with h8 | ⟨j0, g1, h8, hst, _⟩
  · rw [if_pos h8, if_pos h8, qz_beginC h (by omega), qz_bv, qz_beginM h (by omega), qz_bi]
    have hB := qz_beginR h hn h8
    have e8 : qz_begY y p 8 = nI p := by
      unfold qz_begY
      rw [qz_uo (by omega), qz_uo (by omega), qz_us]
    have es : qz_begY y p (1216 + 4 * p + 0) = 1 := by
      unfold qz_begY
      rw [qz_uo (by omega), qz_us]
    have hfree2 : qz_begX X p 20 c0 = -5 := hfree
    rw [qz_addC (c0 := c0) (j0 := p) hB hn (by omega) e8 hc hu, qz_addM hB hn hu]
    have hA := qz_addR (c0 := c0) (r0 := r0) hB (by omega) hn rfl e8 es hc hfree2 hr0 hu
    have e8A : qz_addY (qz_begY y p) n p (nI c0) (nI r0) u 8 = nI p := (qz_addY_o (by omega) (by omega)).trans e8
    have e9A : qz_addY (qz_begY y p) n p (nI c0) (nI r0) u 9 = y 9 := (qz_addY_o (by omega) (by omega)).trans (qz_begY_o (by omega) (by omega) (by omega) (by omega))
    have hfe2 : qz_addY (qz_begY y p) n p (nI c0) (nI r0) u 9 = -5 → f = e := fun q => hfe (e9A.symm.trans q)
    obtain ⟨X3, y3, f3, e3, t1, t2, t3, t4, t5, t6⟩ := qz_entTail (Z := Z) (v := n) hA hfe2 hN (by omega) e8A hu
    have hf : qz_fr X (qz_addX (qz_begX X p) n c0 p (nI c0) (nI r0) u) := qz_fr_tr qz_fr_begX qz_fr_addX
    exact ⟨X3, y3, p + 1, f3, e3, p, _, _, t1, t2, t3, t4, qz_fr_tr hf t5, hA, hfe2, rfl, e8A, t6, qz_us, qz_us, Or.inr ⟨h8, rfl, rfl⟩⟩
  · have h8n : ¬ y 8 = -5 := by rw [h8]; exact qz_n5 (by omega)
    rw [if_neg h8n, if_neg h8n, qz_rd (v := 8) (w := 8) rfl (by omega), h8, qz_addC (c0 := c0) (j0 := j0) h hn (by omega) h8 hc hu, qz_addM h hn hu]
    have hA := qz_addR (c0 := c0) (r0 := r0) h (by omega) hn g1 h8 hst hc hfree hr0 hu
    have e8A : qz_addY y n j0 (nI c0) (nI r0) u 8 = nI j0 := (qz_addY_o (by omega) (by omega)).trans h8
    have e9A : qz_addY y n j0 (nI c0) (nI r0) u 9 = y 9 := qz_addY_o (by omega) (by omega)
    have hfe2 : qz_addY y n j0 (nI c0) (nI r0) u 9 = -5 → f = e := fun q => hfe (e9A.symm.trans q)
    obtain ⟨X3, y3, f3, e3, t1, t2, t3, t4, t5, t6⟩ := qz_entTail (Z := Z) (v := n) hA hfe2 hN (by omega) e8A hu
    have hf : qz_fr X (qz_addX X n c0 j0 (nI c0) (nI r0) u) := qz_fr_addX
    exact ⟨X3, y3, p, f3, e3, j0, _, _, t1, t2, t3, t4, qz_fr_tr hf t5, hA, hfe2, g1, e8A, t6, qz_us, qz_us, Or.inl ⟨rfl, rfl⟩⟩
theorem qz_submitS (hS : qz_S T X y) (hN : 200 ≤ N) (hn : ∀ n p f e t : Nat, qz_R X y n p f e t 0 → n < 150) (hc : c0 < 12) (hr0 : 1 ≤ r0 ∧ r0 ≤ 8) (hfree : X 20 c0 = -5) (hu : u = 0 ∨ u = 1) : ∃ (r : Int32) (X2 : XT) (y2 : Nat → Int32), f_X3_enter N (nI c0) (nI r0) u X = some (r, X2) ∧ f_X8_doesSubmit N (nI c0) (nI r0) u (m_up Z 1 y) = some (r, m_up Z 1 y2) ∧ qz_S T X2 y2 ∧ qz_fr X X2 ∧ ¬ r < 0 := by
  obtain ⟨n, p, f, e, t, h, hfe, hT⟩ := hS
  have hn1 := hn n p f e t h
  obtain ⟨X3, y3, p3, f3, e3, j0, XM, yM, t1, t2, t3, t4, t5, _⟩ := qz_submit (Z := Z) h hfe hN hn1 hc hr0 hfree hu
  exact ⟨nI n, X3, y3, t1, t2, ⟨n + 1, p3, f3, e3, t, t3, t4, hT⟩, t5, nI_pos (by omega)⟩
end QSU
