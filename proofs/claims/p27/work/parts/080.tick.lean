-- one tick
section QT
variable {X Z : XT} {y : Nat → Int32} {N n p f e t b j0 : Nat} {g : Int32}
theorem qz_opens (h : qz_R X y n p f e t b) (G : Nat → Int32) : qz_sum (fun c => if X 20 c = -5 then 0 else G (X 20 c).toNatClampNeg) 12 = qz_sum (fun k => if ¬ 4 ≤ y (16 + 8 * k + 3) then G k else 0) n := by
  have hn0 := qzR_nn h
  refine qz_bij (Q := fun k => ¬ 4 ≤ y (16 + 8 * k + 3)) (cl := fun k => (y (16 + 8 * k + 0)).toNatClampNeg) (by omega) (fun k hk _ => ?_) (fun c hc => ?_)
  · obtain ⟨c, c1, c2⟩ := qzR_kc h k hk
    show (y (16 + 8 * k + 0)).toNatClampNeg < 12
    rw [c2, nI_clamp (by omega)]
    exact c1
  · rcases qzR_oc h c hc with ⟨q1, q2⟩ | ⟨k, q1, q2, q3, q4⟩
    · refine Or.inl ⟨q1, fun k hk hq e1 => q2 k hk hq ?_⟩
      obtain ⟨c2, c1, c3⟩ := qzR_kc h k hk
      rw [c3] at e1 ⊢
      rw [nI_clamp (by omega)] at e1
      rw [e1]
    · refine Or.inr ⟨k, q1, q4, ?_, q2, fun i hi hq e1 => ?_⟩
      · show (y (16 + 8 * k + 0)).toNatClampNeg = c
        rw [q3, nI_clamp (by omega)]
      · refine qzR_ou h i k hi q1 ?_ hq q4
        obtain ⟨c2, c1, c3⟩ := qzR_kc h i hi
        have e2 : (y (16 + 8 * i + 0)).toNatClampNeg = c := e1
        rw [c3, nI_clamp (by omega)] at e2
        rw [c3, q3, e2]
theorem qz_hit_C (h : qz_R X y n p f e t b) (hj0 : j0 < p) (hst : y (1216 + 4 * j0 + 0) = 3) {k : Nat} (hk : k < n) : (∃ i : Nat, i < 12 ∧ qz_hit X (nI j0) i ∧ (X 20 i).toNatClampNeg = k) ↔ qz_C y (nI j0) k := by
  have hn0 := qzR_nn h
  constructor
  · rintro ⟨i, h1, ⟨h2, h3⟩, h4⟩
    rcases qzR_oc h i h1 with ⟨q1, _⟩ | ⟨k2, q1, q2, q3, q4⟩
    · exact absurd q1 h2
    · rw [q2, nI_clamp (by omega)] at h3 h4
      rw [h4] at h3 q4
      rw [qzR_c8 h k hk] at h3
      obtain ⟨u, v⟩ := qzR_ko h k hk q4
      exact ⟨⟨h3, u⟩, by rw [← v j0 hj0 h3]; exact hst⟩
  · intro hC
    have hop : ¬ 4 ≤ y (16 + 8 * k + 3) := by rw [hC.2]; decide
    obtain ⟨c, c1, c2⟩ := qzR_kc h k hk
    rcases qzR_oc h c c1 with ⟨_, q2⟩ | ⟨k2, q1, q2, q3, q4⟩
    · exact absurd c2 (q2 k hk hop)
    · have e1 := qzR_ou h k2 k q1 hk (q3.trans c2.symm) q4 hop
      refine ⟨c, c1, ⟨by rw [q2]; exact qz_n5 (by omega), ?_⟩, ?_⟩
      · rw [q2, nI_clamp (by omega), e1, qzR_c8 h k hk]
        exact hC.1.1
      · rw [q2, nI_clamp (by omega), e1]
theorem qz_hits (h : qz_R X y n p f e t b) (hj0 : j0 < p) (hst : y (1216 + 4 * j0 + 0) = 3) (G : Nat → Int32) : qz_sum (fun i => if qz_hit X (nI j0) i then G (X 20 i).toNatClampNeg else 0) 12 = qz_sum (fun k => if qz_C y (nI j0) k then G k else 0) n := by
  have hn0 := qzR_nn h
  have e1 := qz_opens h (fun k => if X 8 k = nI j0 then G k else 0)
  have e2 : qz_sum (fun i => if qz_hit X (nI j0) i then G (X 20 i).toNatClampNeg else 0) 12 = qz_sum (fun c => if X 20 c = -5 then 0 else (fun k => if X 8 k = nI j0 then G k else 0) (X 20 c).toNatClampNeg) 12 := by
    refine qz_sum_c 12 (fun i _ => ?_)
    by_cases q1 : X 20 i = -5
    · rw [if_pos q1, if_neg (fun q => q.1 q1)]
    · rw [if_neg q1]
      show _ = if X 8 (X 20 i).toNatClampNeg = nI j0 then G (X 20 i).toNatClampNeg else 0
      by_cases q2 : X 8 (X 20 i).toNatClampNeg = nI j0
      · rw [if_pos q2, if_pos ⟨q1, q2⟩]
      · rw [if_neg q2, if_neg (fun q => q2 q.2)]
  rw [e2, e1]
  refine qz_sum_c n (fun k hk => ?_)
  show (if ¬ 4 ≤ y (16 + 8 * k + 3) then (if X 8 k = nI j0 then G k else 0) else 0) = _
  rw [qzR_c8 h k hk]
  by_cases q1 : ¬ 4 ≤ y (16 + 8 * k + 3)
  · rw [if_pos q1]
    obtain ⟨u, v⟩ := qzR_ko h k hk q1
    by_cases q2 : y (16 + 8 * k + 6) = nI j0
    · rw [if_pos q2, if_pos ⟨⟨q2, u⟩, by rw [← v j0 hj0 q2]; exact hst⟩]
    · rw [if_neg q2, if_neg (fun q => q2 q.1.1)]
  · rw [if_neg q1, if_neg (fun q => q1 (by rw [q.2]; decide))]
def qz_finished (X X2 : XT) (y y2 : Nat → Int32) (j0 : Nat) : Prop :=
  (∀ s : Nat, s ≠ 10 → X2 0 s = X 0 s) ∧ X2 0 10 = -5 ∧ y2 9 = -5 ∧ y2 8 = y 8 ∧ (∀ i : Nat, i < 21 → i ≠ 0 → i ≠ 5 → i ≠ 7 → i ≠ 11 → i ≠ 19 → i ≠ 20 → X2 i = X i) ∧ (∀ c : Nat, c < 12 → X2 20 c = if qz_hit X (nI j0) c then -5 else X 20 c)
set_option maxHeartbeats 4000000 in
theorem qz_finish (h : qz_R X y n p f e t b) (hb : b ≠ 1) (hj0 : j0 < p) (h9 : y 9 = nI j0) (hL : y (1216 + 4 * j0 + 3) = 0) (hN : 200 ≤ N) : ∃ (r : Int32) (X2 : XT) (y2 : Nat → Int32), f_X3_finishWriting N X = some (r, X2) ∧ f_X8_tickOnce_40 N 0 (nI j0) (m_up Z 1 y) = f_X8_tickOnce_103 N r (m_up Z 1 y2) ∧ qz_R X2 y2 n p f e t 0 ∧ qz_fr X X2 ∧ qz_finished X X2 y y2 j0 := by
  have hp0 := (qzR_pn h).1
  have hn0 := qzR_nn h
  have hst : y (1216 + 4 * j0 + 0) = 3 := by
    rcases qzR_wa h with q | ⟨j, q1, q2, q3, _⟩
    · exact absurd (q.symm.trans h9) (qz_5n (by omega))
    · rw [h9, nI_eq (by omega) (by omega)] at q2
      rw [q2]
      exact q3
  have hrec : X 13 j0 = qz_rec y n (nI j0) := qzR_g13 h j0 hj0
  -- the class
  have hC : f_X3_finishWriting N X = f_X3_finishWriting_52 N N (nI j0) 0 0 (m_up (m_up (m_up X 0 (upd (X 0) 10 (-5))) 11 (upd (X 11) j0 4)) 19 (upd (upd (X 19) 5 (X 19 5 + 1)) 6 (X 19 6 + X 13 j0))) := by
    unfold f_X3_finishWriting
    rw [qz_nm, qzR_vx h, h9, qz_setStateG (p := p) (by rw [qz_un _ _ (by decide)]; exact qzR_px h) hj0 hp0, qz_bv]
    simp only [qz_un X _ (show (11 : Nat) ≠ 0 by decide)]
    rw [qz_rdc (show (5 : Int32) = nI 5 from rfl) (show 5 < 8 by omega), qz_nm, qz_gd (qz_in' (show (5 : Int32) = nI 5 from rfl) (show 5 < 8 by omega) (by omega)), qz_nm, qz_cl' (show (5 : Int32) = nI 5 from rfl) (by omega), qz_rdc (show (6 : Int32) = nI 6 from rfl) (show 6 < 8 by omega)]
    rw [qz_recordsG (p := p) (by rw [qz_un _ _ (by decide), qz_un _ _ (by decide), qz_un _ _ (by decide)]; exact qzR_px h) hj0 hp0, qz_bi, qz_nm, qz_gd (qz_in' (show (6 : Int32) = nI 6 from rfl) (show 6 < 8 by omega) (by omega)), qz_nm, qz_cl' (show (6 : Int32) = nI 6 from rfl) (by omega)]
    simp only [qz_up, qz_uu, qz_un _ _ (show (19 : Nat) ≠ 11 by decide), qz_un _ _ (show (19 : Nat) ≠ 0 by decide), qz_un _ _ (show (13 : Nat) ≠ 19 by decide), qz_un _ _ (show (13 : Nat) ≠ 11 by decide), qz_un _ _ (show (13 : Nat) ≠ 0 by decide), qz_uo (show (6 : Nat) ≠ 5 by decide)]
  -- the model
  have e6 : ∀ a : Nat, a ≠ 1216 + 4 * j0 + 0 → a ≠ 9 → a ≠ 13 → upd (upd (upd y (1216 + 4 * j0 + 0) 4) 9 (-5)) 13 (y 13 + 1) a = y a := fun a a1 a2 a3 => by rw [qz_uo a3, qz_uo a2, qz_uo a1]
  have er : qz_rec (upd (upd (upd y (1216 + 4 * j0 + 0) 4) 9 (-5)) 13 (y 13 + 1)) n (nI j0) = qz_rec y n (nI j0) := qz_sum_c n (fun k hk => by
    have hk1 : k < 150 := by omega
    simp only [qz_mb]
    rw [e6 (16 + 8 * k + 6) (by omega) (by omega) (by omega), e6 (16 + 8 * k + 7) (by omega) (by omega) (by omega), e6 (16 + 8 * k + 1) (by omega) (by omega) (by omega)])
  have hM : f_X8_tickOnce_40 N 0 (nI j0) (m_up Z 1 y) = (m_bi (f_X8_answerAll N (nI j0) (m_up Z 1 (upd (upd (upd (upd y (1216 + 4 * j0 + 0) 4) 9 (-5)) 13 (y 13 + 1)) 14 (y 14 + qz_rec y n (nI j0))))) fun r_57 X_57 => f_X8_tickOnce_103 N r_57 X_57) := by
    unfold f_X8_tickOnce_40
    rw [if_neg (qz_n5 (by omega)), qz_ofG (v := 3) (w := 3) rfl (by omega) (by omega), qz_bi, if_pos hL, qz_setG (v := 0) (w := 0) rfl (by omega) (by omega), qz_bv, qz_wr (v := 9) (w := 9) rfl (by omega), qz_rd (v := 13) (w := 13) rfl (by omega), qz_nm, qz_wr (v := 13) (w := 13) rfl (by omega), qz_rd (v := 14) (w := 14) rfl (by omega), qz_uo (show 13 ≠ 9 by omega), qz_uo (show 13 ≠ 1216 + 4 * j0 + 0 by omega), qz_records (n := n) (by rw [e6 _ (by omega) (by omega) (by omega)]; exact qzR_ny h) hn0 hN, qz_bi, er, qz_nm, qz_wr (v := 14) (w := 14) rfl (by omega), e6 14 (by omega) (by omega) (by omega)]
  have eB : ∀ a : Nat, a ≠ 1216 + 4 * j0 + 0 → a ≠ 9 → a ≠ 13 → a ≠ 14 → upd (upd (upd (upd y (1216 + 4 * j0 + 0) 4) 9 (-5)) 13 (y 13 + 1)) 14 (y 14 + qz_rec y n (nI j0)) a = y a := fun a a1 a2 a3 a4 => by rw [qz_uo a4, e6 a a1 a2 a3]
  have eB9 : upd (upd (upd (upd y (1216 + 4 * j0 + 0) 4) 9 (-5)) 13 (y 13 + 1)) 14 (y 14 + qz_rec y n (nI j0)) 9 = -5 := by rw [qz_uo (by decide), qz_uo (by decide), qz_us]
  have eB13 : upd (upd (upd (upd y (1216 + 4 * j0 + 0) 4) 9 (-5)) 13 (y 13 + 1)) 14 (y 14 + qz_rec y n (nI j0)) 13 = y 13 + 1 := by rw [qz_uo (by decide), qz_us]
  have eB14 : upd (upd (upd (upd y (1216 + 4 * j0 + 0) 4) 9 (-5)) 13 (y 13 + 1)) 14 (y 14 + qz_rec y n (nI j0)) 14 = y 14 + qz_rec y n (nI j0) := qz_us
  have eBg : upd (upd (upd (upd y (1216 + 4 * j0 + 0) 4) 9 (-5)) 13 (y 13 + 1)) 14 (y 14 + qz_rec y n (nI j0)) (1216 + 4 * j0 + 0) = 4 := by rw [qz_uo (by omega), qz_uo (by omega), qz_uo (by omega), qz_us]
  generalize upd (upd (upd (upd y (1216 + 4 * j0 + 0) 4) 9 (-5)) 13 (y 13 + 1)) 14 (y 14 + qz_rec y n (nI j0)) = yB at hM eB eB9 eB13 eB14 eBg
  rw [qz_answerAll (n := n) (by rw [eB _ (by omega) (by omega) (by omega) (by omega)]; exact qzR_ny h) hn0 hN, qz_bi] at hM
  have hCC : ∀ k : Nat, k < 150 → (qz_C yB (nI j0) k ↔ qz_C y (nI j0) k) := fun k hk => by
    simp only [qz_C, qz_mb]
    rw [eB (16 + 8 * k + 6) (by omega) (by omega) (by omega) (by omega), eB (16 + 8 * k + 7) (by omega) (by omega) (by omega) (by omega), eB (16 + 8 * k + 3) (by omega) (by omega) (by omega) (by omega)]
  -- the class's loop
  have r20 : m_up (m_up (m_up X 0 (upd (X 0) 10 (-5))) 11 (upd (X 11) j0 4)) 19 (upd (upd (X 19) 5 (X 19 5 + 1)) 6 (X 19 6 + X 13 j0)) 20 = X 20 := by rw [qz_un _ _ (by decide), qz_un _ _ (by decide), qz_un _ _ (by decide)]
  have rO : ∀ i : Nat, i ≠ 0 → i ≠ 11 → i ≠ 19 → m_up (m_up (m_up X 0 (upd (X 0) 10 (-5))) 11 (upd (X 11) j0 4)) 19 (upd (upd (X 19) 5 (X 19 5 + 1)) 6 (X 19 6 + X 13 j0)) i = X i := fun i i1 i2 i3 => by rw [qz_un _ _ i3, qz_un _ _ i2, qz_un _ _ i1]
  have r0 : m_up (m_up (m_up X 0 (upd (X 0) 10 (-5))) 11 (upd (X 11) j0 4)) 19 (upd (upd (X 19) 5 (X 19 5 + 1)) 6 (X 19 6 + X 13 j0)) 0 = upd (X 0) 10 (-5) := by rw [qz_un _ _ (by decide), qz_un _ _ (by decide), qz_up]
  have r11 : m_up (m_up (m_up X 0 (upd (X 0) 10 (-5))) 11 (upd (X 11) j0 4)) 19 (upd (upd (X 19) 5 (X 19 5 + 1)) 6 (X 19 6 + X 13 j0)) 11 = upd (X 11) j0 4 := by rw [qz_un _ _ (by decide), qz_up]
  have r19 : m_up (m_up (m_up X 0 (upd (X 0) 10 (-5))) 11 (upd (X 11) j0 4)) 19 (upd (upd (X 19) 5 (X 19 5 + 1)) 6 (X 19 6 + X 13 j0)) 19 = upd (upd (X 19) 5 (X 19 5 + 1)) 6 (X 19 6 + X 13 j0) := by rw [qz_up]
  generalize m_up (m_up (m_up X 0 (upd (X 0) 10 (-5))) 11 (upd (X 11) j0 4)) 19 (upd (upd (X 19) 5 (X 19 5 + 1)) 6 (X 19 6 + X 13 j0)) = XB at hC r20 rO r0 r11 r19
  have hloop := qz_fin_l (N := N) (X := XB) (g := nI j0) (n := n) (by rw [rO 1 (by decide) (by decide) (by decide)]; exact qzR_nx h) hn0 (by
    intro c hc
    rw [r20]
    rcases qzR_oc h c hc with ⟨q1, _⟩ | ⟨k, q1, q2, _⟩
    · exact Or.inl q1
    · exact Or.inr ⟨k, q1, q2⟩) N 0 (by omega) (by omega)
  have hloop2 : f_X3_finishWriting_52 N N (nI j0) 0 0 XB = f_X3_finishWriting_140 N (qz_sum (fun i => if qz_hit XB (nI j0) i then 1 else 0) 12) (qz_ft (nI j0) XB 12) := hloop
  have hhit : ∀ i : Nat, qz_hit XB (nI j0) i ↔ qz_hit X (nI j0) i := fun i => by
    simp only [qz_hit]
    rw [r20, rO 8 (by decide) (by decide) (by decide)]
  have hcnt : qz_sum (fun i => if qz_hit XB (nI j0) i then 1 else 0) 12 = qz_sum (fun i => if qz_C yB (nI j0) i then 1 else 0) n := by
    have q := qz_hits h hj0 hst (fun _ => 1)
    rw [← qz_sum_c (f := fun i => if qz_hit XB (nI j0) i then 1 else 0) 12 (fun i _ => by simp only [hhit])] at q
    rw [q]
    exact qz_sum_c n (fun k hk => by simp only [hCC k (by omega)])
  have hX06 : XB 0 6 = nI t := by rw [r0, qz_uo (by decide)]; exact qzR_tx h
  have hsum : qz_sum (fun i => if qz_hit XB (nI j0) i then XB 0 6 - XB 6 (XB 20 i).toNatClampNeg else 0) 12 = qz_sum (fun k => if qz_C yB (nI j0) k then yB 0 - yB (16 + 8 * k + 4) else 0) n := by
    have q := qz_hits h hj0 hst (fun k => nI t - X 6 k)
    have q1 : qz_sum (fun i => if qz_hit XB (nI j0) i then XB 0 6 - XB 6 (XB 20 i).toNatClampNeg else 0) 12 = qz_sum (fun i => if qz_hit X (nI j0) i then (fun k => nI t - X 6 k) (X 20 i).toNatClampNeg else 0) 12 := qz_sum_c 12 (fun i _ => by simp only [hhit, hX06, r20, rO 6 (by decide) (by decide) (by decide)])
    rw [q1, q]
    refine qz_sum_c n (fun k hk => ?_)
    simp only [hCC k (by omega)]
    rw [eB 0 (by omega) (by omega) (by omega) (by omega), eB (16 + 8 * k + 4) (by omega) (by omega) (by omega) (by omega), qzR_ty h, qzR_c6 h k hk]
  rw [hC, hloop2]
  unfold f_X3_finishWriting_140
  rw [qz_rdc (show (1 : Int32) = nI 1 from rfl) (show 1 < 8 by omega), qz_nm, qz_gd (qz_in' (show (1 : Int32) = nI 1 from rfl) (show 1 < 8 by omega) (by omega)), qz_nm, qz_cl' (show (1 : Int32) = nI 1 from rfl) (by omega)]
  refine ⟨_, _, _, rfl, by rw [hM, hcnt], ?_, ?_, ?_⟩
  · refine qzo_finish (x := X) (y := y) (j0 := j0) h ?_ ?_ ?_ ?_ ?_ hb hj0 h9 hst ?_ ?_ ?_ ?_ ?_ ?_ ?_ ?_ ?_ ?_ ?_ ?_
    · intro i _ i0 i5 i7 i11 i19 i20
      rw [qz_un _ _ i19, qz_ft_row i5 i7 i20 i19, rO i i0 i11 i19]
    · intro s s1
      rw [qz_un _ _ (by decide), qz_ft_row (by decide) (by decide) (by decide) (by decide), r0, qz_uo s1]
    · intro a a1 a9 a10 a13 a14 a15
      rw [qz_uo a10, qz_an_o (by omega), eB a (by omega) a9 a13 a14]
    · intro k w k1 w1 w3 w5
      rw [qz_uo (by omega), qz_an_o (by omega), eB _ (by omega) (by omega) (by omega) (by omega)]
    · intro j w j1 w1 w0
      rw [qz_uo (by omega), qz_an_g _ (by omega), eB _ (by omega) (by omega) (by omega) (by omega)]
    · rw [qz_un _ _ (by decide), qz_ft_row (by decide) (by decide) (by decide) (by decide), r0, qz_us]
    · rw [qz_uo (by decide), qz_an_o (by omega), eB9]
    · have t0 := qzR_t0 h; have t1 := qzR_t1 h; have t2 := qzR_t2 h; have t3 := qzR_t3 h; have t4 := qzR_t4 h; have t5 := qzR_t5 h; have t6 := qzR_t6 h; have t7 := qzR_t7 h
      refine ⟨?_, ?_, ?_, ?_, ?_, ?_, ?_, ?_⟩
      · rw [qz_up, qz_uo (by decide), qz_ft_19, if_neg (by decide), r19, qz_uo (by decide), qz_uo (by decide), qz_uo (by decide), qz_an_o (by omega), eB _ (by omega) (by omega) (by omega) (by omega)]
        exact t0
      · rw [qz_up, qz_us, qz_ft_19, if_neg (by decide), r19, qz_uo (by decide), qz_uo (by decide), qz_us, t1, hcnt, eB _ (by omega) (by omega) (by omega) (by omega)]
      · rw [qz_up, qz_uo (by decide), qz_ft_19, if_neg (by decide), r19, qz_uo (by decide), qz_uo (by decide), qz_uo (by decide), qz_an_o (by omega), eB _ (by omega) (by omega) (by omega) (by omega)]
        exact t2
      · rw [qz_up, qz_uo (by decide), qz_ft_19, if_neg (by decide), r19, qz_uo (by decide), qz_uo (by decide), qz_uo (by decide), qz_an_o (by omega), eB _ (by omega) (by omega) (by omega) (by omega)]
        exact t3
      · rw [qz_up, qz_uo (by decide), qz_ft_19, if_neg (by decide), r19, qz_uo (by decide), qz_uo (by decide), qz_uo (by decide), qz_an_o (by omega), eB _ (by omega) (by omega) (by omega) (by omega)]
        exact t4
      · rw [qz_up, qz_uo (by decide), qz_ft_19, if_neg (by decide), r19, qz_uo (by decide), qz_us, qz_uo (by decide), qz_an_o (by omega), eB13, t5]
      · rw [qz_up, qz_uo (by decide), qz_ft_19, if_neg (by decide), r19, qz_us, qz_uo (by decide), qz_an_o (by omega), eB14, t6, hrec]
      · rw [qz_up, qz_uo (by decide), qz_ft_19, if_pos rfl, hsum, qz_uo (by decide), qz_an_15, r19, qz_uo (by decide), qz_uo (by decide), t7, eB 15 (by omega) (by omega) (by omega) (by omega)]
    · intro k hk
      rw [qz_un _ _ (by decide)]
      have q := qz_ft_57 (X := XB) (g := nI j0) 12 k
      have q1 := qz_hit_C h hj0 hst hk
      have q2 : (∃ i : Nat, i < 12 ∧ qz_hit XB (nI j0) i ∧ (XB 20 i).toNatClampNeg = k) ↔ qz_C y (nI j0) k := by simp only [hhit, r20]; exact q1
      by_cases hc : qz_C y (nI j0) k
      · rw [if_pos hc, (q.1 (q2.mpr hc)).1]
      · rw [if_neg hc, (q.2 (fun u => hc (q2.mp u))).1, rO 5 (by decide) (by decide) (by decide)]
    · intro k hk
      rw [qz_un _ _ (by decide)]
      have q := qz_ft_57 (X := XB) (g := nI j0) 12 k
      have q1 := qz_hit_C h hj0 hst hk
      have q2 : (∃ i : Nat, i < 12 ∧ qz_hit XB (nI j0) i ∧ (XB 20 i).toNatClampNeg = k) ↔ qz_C y (nI j0) k := by simp only [hhit, r20]; exact q1
      by_cases hc : qz_C y (nI j0) k
      · rw [if_pos hc, (q.1 (q2.mpr hc)).2, hX06]
      · rw [if_neg hc, (q.2 (fun u => hc (q2.mp u))).2, rO 7 (by decide) (by decide) (by decide)]
    · intro k hk
      rw [qz_uo (by omega), (qz_an_35 n k).1]
      by_cases hc : qz_C y (nI j0) k
      · rw [if_pos ⟨hk, (hCC k (by omega)).mpr hc⟩, if_pos hc]
      · rw [if_neg (fun u => hc ((hCC k (by omega)).mp u.2)), if_neg hc, eB _ (by omega) (by omega) (by omega) (by omega)]
    · intro k hk
      rw [qz_uo (by omega), (qz_an_35 n k).2]
      by_cases hc : qz_C y (nI j0) k
      · rw [if_pos ⟨hk, (hCC k (by omega)).mpr hc⟩, if_pos hc, eB _ (by omega) (by omega) (by omega) (by omega), qzR_ty h]
      · rw [if_neg (fun u => hc ((hCC k (by omega)).mp u.2)), if_neg hc, eB _ (by omega) (by omega) (by omega) (by omega)]
    · intro j
      rw [qz_un _ _ (by decide), qz_ft_row (by decide) (by decide) (by decide) (by decide), r11]
      rfl
    · intro j hj
      rw [qz_uo (by omega), qz_an_g _ (by omega)]
      by_cases q : j = j0
      · rw [if_pos q, q, eBg]
      · rw [if_neg q, eB _ (by omega) (by omega) (by omega) (by omega)]
    · intro c k hc hk q1 q2
      rw [qz_un _ _ (by decide), qz_ft_20, if_pos]
      refine ⟨hc, (hhit c).mpr ⟨by rw [q1]; exact qz_n5 (by omega), ?_⟩⟩
      rw [q1, nI_clamp (by omega), qzR_c8 h k hk]
      exact q2.1.1
    · intro c k hc hk q1 q2
      rw [qz_un _ _ (by decide), qz_ft_20, if_neg, r20]
      rintro ⟨_, u⟩
      have u2 := (hhit c).mp u
      exact q2 ((qz_hit_C h hj0 hst hk).mp ⟨c, hc, u2, by rw [q1, nI_clamp (by omega)]⟩)
    · intro c hc q1
      rw [qz_un _ _ (by decide), qz_ft_20, if_neg, r20]
      · exact q1
      · rintro ⟨_, u⟩
        exact ((hhit c).mp u).1 q1
  · intro i hi
    rw [qz_un _ _ (by omega), qz_ft_row (by omega) (by omega) (by omega) (by omega), rO i (by omega) (by omega) (by omega)]
  · refine ⟨fun s s1 => ?_, ?_, ?_, ?_, fun i _ i0 i5 i7 i11 i19 i20 => ?_, fun c hc => ?_⟩
    · rw [qz_un _ _ (by decide), qz_ft_row (by decide) (by decide) (by decide) (by decide), r0, qz_uo s1]
    · rw [qz_un _ _ (by decide), qz_ft_row (by decide) (by decide) (by decide) (by decide), r0, qz_us]
    · rw [qz_uo (by decide), qz_an_o (by omega), eB9]
    · rw [qz_uo (by decide), qz_an_o (by omega), eB _ (by omega) (by omega) (by omega) (by omega)]
    · rw [qz_un _ _ i19, qz_ft_row i5 i7 i20 i19, rO i i0 i11 i19]
    · rw [qz_un _ _ (by decide), qz_ft_20]
      by_cases q : qz_hit X (nI j0) c
      · rw [if_pos ⟨hc, (hhit c).mpr q⟩, if_pos q]
      · rw [if_neg (fun u => q ((hhit c).mp u.2)), if_neg q, r20]
end QT
