-- a crash, joined
section QCR2
variable {X Z : XT} {y : Nat → Int32} {N n p f e t b T : Nat}
theorem qz_setStateAny {v g : Int32} {W : XT} (h10 : W 10 4 = nI p) (hp : p ≤ 150) (hg : g = -5 ∨ ∃ j : Nat, j < p ∧ g = nI j) : ∃ W2 : XT, f_X1_setState N g v W = some W2 ∧ (∀ i : Nat, i ≠ 11 → W2 i = W i) ∧ (∀ j : Nat, j < 150 → (g = nI j → W2 11 j = v) ∧ (g ≠ nI j → W2 11 j = W 11 j)) := by
  rcases hg with rfl | ⟨j0, hj0, rfl⟩
  · exact ⟨W, qz_setStateG5, fun _ _ => rfl, fun j hj => ⟨fun q => absurd q (qz_5n (by omega)), fun _ => rfl⟩⟩
  · refine ⟨_, qz_setStateG h10 hj0 hp, fun i hi => qz_un _ _ hi, fun j hj => ?_⟩
    rw [qz_up]
    by_cases q : j = j0
    · rw [q, qz_us]
      exact ⟨fun _ => rfl, fun u => absurd rfl u⟩
    · rw [qz_uo q]
      exact ⟨fun u => absurd ((nI_eq (by omega) (by omega)).mp u).symm q, fun _ => rfl⟩
theorem qz_drop {W : XT} (h : qz_R X y n p f e t b) (hN : 200 ≤ N) (w9 : W 0 10 = y 9) (w8 : W 0 8 = y 8) (w10 : W 10 = X 10) (w15 : W 15 = X 15) (w16 : W 16 = X 16) :
    ∃ X2 : XT, f_X3_dropGroups N W = some X2 ∧ (∀ s : Nat, s ≠ 8 → s ≠ 10 → X2 0 s = W 0 s) ∧ X2 0 8 = -5 ∧ X2 0 10 = -5 ∧ X2 15 1 = nI e ∧ (∀ s : Nat, s ≠ 1 → X2 15 s = X 15 s) ∧ (∀ i : Nat, i ≠ 0 → i ≠ 11 → i ≠ 15 → X2 i = W i) ∧ (∀ j : Nat, j < p → X2 11 j = if 4 ≤ y (1216 + 4 * j + 0) then W 11 j else 5) := by
  have hp0 := (qzR_pn h).1
  have hqb := qzR_qb h
  have g9 : y 9 = -5 ∨ ∃ j : Nat, j < p ∧ y 9 = nI j := by
    rcases qzR_wa h with q | ⟨j, q1, q2, _⟩
    · exact Or.inl q
    · exact Or.inr ⟨j, q1, q2⟩
  have g8 : y 8 = -5 ∨ ∃ j : Nat, j < p ∧ y 8 = nI j := by
    rcases qzR_ga h with q | ⟨j, q1, q2, _⟩
    · exact Or.inl q
    · exact Or.inr ⟨j, by omega, q2⟩
  obtain ⟨W1, a1, a2, a3⟩ := qz_setStateAny (N := N) (v := 5) (W := W) (by rw [w10]; exact qzR_px h) hp0 g9
  have b1 : m_up W1 0 (upd (W1 0) 10 (-5)) 0 8 = y 8 := by rw [qz_up, qz_uo (by decide), a2 0 (by decide)]; exact w8
  obtain ⟨W2, c1, c2, c3⟩ := qz_setStateAny (N := N) (v := 5) (W := m_up W1 0 (upd (W1 0) 10 (-5))) (by rw [qz_un _ _ (by decide), a2 10 (by decide), w10]; exact qzR_px h) hp0 g8
  have w2_0 : W2 0 = upd (W 0) 10 (-5) := by rw [c2 0 (by decide), qz_up, a2 0 (by decide)]
  have w2_o : ∀ i : Nat, i ≠ 0 → i ≠ 11 → W2 i = W i := fun i i0 i11 => by rw [c2 i i11, qz_un _ _ i0, a2 i i11]
  have d15 : m_up W2 0 (upd (W2 0) 8 (-5)) 15 = X 15 := by rw [qz_un _ _ (by decide), w2_o 15 (by decide) (by decide), w15]
  obtain ⟨X2, e1, e2, e3, e4, e5⟩ := qz_drop_l (f := f) p e (by omega) hp0 (e - f) N 0 (e - f) (m_up W2 0 (upd (W2 0) 8 (-5))) (by omega) (by omega) (by omega) (by rw [d15]; exact qzR_qf h) (by rw [d15]; exact qzR_qe h) (by rw [qz_un _ _ (by decide), w2_o 10 (by decide) (by decide), w10]; exact qzR_px h) (by
    intro q q1 q2
    rw [qz_un _ _ (by decide), w2_o 16 (by decide) (by decide), w16]
    obtain ⟨j, u1, u2, _⟩ := qzR_qs h q (by omega) q2
    exact ⟨j, u1, u2⟩)
  refine ⟨X2, ?_, fun s s8 s10 => ?_, ?_, ?_, e2, fun s s1 => ?_, fun i i0 i11 i15 => ?_, fun j hj => ?_⟩
  · unfold f_X3_dropGroups
    rw [w9, a1, qz_bv, qz_nm, b1, c1, qz_bv, qz_nm]
    unfold f_X4_size
    rw [d15, qz_nm, qz_bi, qzR_qf h, qzR_qe h, pk_sub (by omega)]
    exact e1
  · rw [e4 0 (by decide) (by decide), qz_up, qz_uo s8, w2_0, qz_uo s10]
  · rw [e4 0 (by decide) (by decide), qz_up, qz_us]
  · rw [e4 0 (by decide) (by decide), qz_up, qz_uo (by decide), w2_0, qz_us]
  · rw [e3 s s1, d15]
  · rw [e4 i i11 i15, qz_un _ _ i0, w2_o i i0 i11]
  · have k5 := e5 j (by omega)
    rw [qz_un _ _ (show (11 : Nat) ≠ 0 by decide), qz_un _ _ (show (16 : Nat) ≠ 0 by decide), w2_o 16 (by decide) (by decide), w16, Nat.add_zero] at k5
    have k3 := c3 j (by omega)
    rw [qz_un _ _ (show (11 : Nat) ≠ 0 by decide)] at k3
    have k1 := a3 j (by omega)
    by_cases hs : 4 ≤ y (1216 + 4 * j + 0)
    · rw [if_pos hs]
      have n1 : ¬ (∃ q : Nat, f ≤ q ∧ q < e ∧ X 16 q = nI j) := by
        rintro ⟨q, q1, q2, q3⟩
        obtain ⟨j2, u1, u2, u3⟩ := qzR_qs h q q1 q2
        rw [q3, nI_eq (by omega) (by omega)] at u2
        rw [u2, u3] at hs
        exact absurd hs (by decide)
      have n2 : y 8 ≠ nI j := fun q => by
        rcases qzR_ga h with u | ⟨j2, _, u2, u3, _⟩
        · exact qz_5n (by omega) (u.symm.trans q)
        · rw [q, nI_eq (by omega) (by omega)] at u2
          rw [u2, u3] at hs
          exact absurd hs (by decide)
      have n3 : y 9 ≠ nI j := fun q => by
        rcases qzR_wa h with u | ⟨j2, u1, u2, u3, _⟩
        · exact qz_5n (by omega) (u.symm.trans q)
        · rw [q, nI_eq (by omega) (by omega)] at u2
          rw [u2, u3] at hs
          exact absurd hs (by decide)
      rw [k5.2 n1, k3.2 n2, k1.2 n3]
    · rw [if_neg hs]
      obtain ⟨s, s1, s2, s3⟩ := qzR_gs h j hj
      rw [s3, show (4 : Int32) = nI 4 from rfl, nI_leI (by omega) (by omega)] at hs
      have hs3 : s = 1 ∨ s = 2 ∨ s = 3 := by omega
      by_cases n1 : ∃ q : Nat, f ≤ q ∧ q < e ∧ X 16 q = nI j
      · exact k5.1 n1
      · rw [k5.2 n1]
        by_cases n2 : y 8 = nI j
        · exact k3.1 n2
        · rw [k3.2 n2]
          by_cases n3 : y 9 = nI j
          · exact k1.1 n3
          · exfalso
            rcases hs3 with q | q | q
            · exact n2 (qzR_gu h j hj (by rw [s3, q]; rfl))
            · exact n1 (qzR_qc h j hj (by rw [s3, q]; rfl))
            · exact n3 (qzR_wu h j hj (by rw [s3, q]; rfl))
set_option maxHeartbeats 4000000 in
theorem qz_crash (hS : qz_S T X y) (hN : 200 ≤ N) : ∃ (r : Int32) (X2 : XT) (y2 : Nat → Int32), f_X3_loseAll N X = some (r, X2) ∧ f_X8_doesCrash N (m_up Z 1 y) = some (r, m_up Z 1 y2) ∧ qz_S T X2 y2 ∧ qz_fr X X2 ∧ ¬ r < 0 := by
  obtain ⟨n, p, f, e, t, h, hfe, hT⟩ := hS
  have hp0 := (qzR_pn h).1
  have hn0 := qzR_nn h
  have hloop := qz_lose_l (N := N) (qzR_nx h) hn0 (by
    intro c hc
    rcases qzR_oc h c hc with ⟨q1, _⟩ | ⟨k, q1, q2, q3, _⟩
    · exact Or.inl q1
    · exact Or.inr ⟨k, q1, q2, (qzR_c2 h k q1).trans q3⟩) N 0 (by omega) (by omega)
  have hloop2 : f_X3_loseAll N X = f_X3_loseAll_41 N (qz_sum (fun i => if X 20 i = -5 then 0 else 1) 12) (qz_lt X 12) := hloop
  have hM := qz_crM_l (Z := Z) h hN N 0 (by omega) (by omega)
  have hz : qz_crs y n 0 = 0 := qz_sum_0 n (fun k _ => if_neg (fun q => absurd q.2 (by omega)))
  rw [hz, qz_cr_0] at hM
  have hM2 : f_X8_doesCrash N (m_up Z 1 y) = f_X8_doesCrash_47 N (qz_crs y n p) (m_up Z 1 (qz_cr y n p)) := hM
  have hcnt : qz_crs y n p = qz_sum (fun i => if X 20 i = -5 then 0 else 1) 12 := by
    have q := qz_opens h (fun _ => 1)
    rw [q]
    refine qz_sum_c n (fun k hk => ?_)
    obtain ⟨g, hg, eg⟩ := qzR_kg h k hk
    by_cases q1 : ¬ 4 ≤ y (16 + 8 * k + 3)
    · rw [if_pos q1, if_pos ⟨q1, by rw [eg, nI_clamp (by omega)]; exact hg⟩]
    · rw [if_neg q1, if_neg (fun u => q1 u.1)]
  have hpos : ∀ c : Nat, c ≤ 12 → ∃ m : Nat, m ≤ c ∧ qz_sum (fun i => if X 20 i = -5 then 0 else 1) c = nI m := by
    intro c
    induction c with
    | zero => intro _; exact ⟨0, Nat.le_refl _, rfl⟩
    | succ c ih =>
      intro hc
      obtain ⟨m, m1, m2⟩ := ih (by omega)
      have e1 : qz_sum (fun i => if X 20 i = -5 then 0 else 1) (c + 1) = qz_sum (fun i => if X 20 i = -5 then 0 else 1) c + (if X 20 c = -5 then 0 else 1) := rfl
      rw [e1, m2]
      split
      · exact ⟨m, by omega, Int32.add_zero _⟩
      · exact ⟨m + 1, by omega, nI_1 m⟩
  obtain ⟨m, m1, m2⟩ := hpos 12 (Nat.le_refl _)
  rw [hcnt, m2] at hM2
  rw [m2] at hloop2
  have lr : ∀ i : Nat, i ≠ 5 → i ≠ 20 → qz_lt X 12 i = X i := fun i i5 i20 => qz_lt_row i5 i20 12
  obtain ⟨X2, e1, e2, e3, e4, e5, e6, e7, e8⟩ := qz_drop (N := N) (W := m_up (qz_lt X 12) 19 (upd (X 19) 2 (X 19 2 + nI m))) h hN (by rw [qz_un _ _ (by decide), lr 0 (by decide) (by decide)]; exact qzR_vx h) (by rw [qz_un _ _ (by decide), lr 0 (by decide) (by decide)]; exact qzR_gx h) (by rw [qz_un _ _ (by decide), lr 10 (by decide) (by decide)]) (by rw [qz_un _ _ (by decide), lr 15 (by decide) (by decide)]) (by rw [qz_un _ _ (by decide), lr 16 (by decide) (by decide)])
  have hopk : ∀ k : Nat, k < n → ((∃ i : Nat, i < 12 ∧ ¬ X 20 i = -5 ∧ (X 20 i).toNatClampNeg = k) ↔ ¬ 4 ≤ y (16 + 8 * k + 3)) := by
    intro k hk
    constructor
    · rintro ⟨i, i1, i2, i3⟩
      rcases qzR_oc h i i1 with ⟨q1, _⟩ | ⟨k2, q1, q2, q3, q4⟩
      · exact absurd q1 i2
      · rw [q2, nI_clamp (by omega)] at i3
        rw [i3] at q4
        exact q4
    · intro hop
      obtain ⟨c, c1, c2⟩ := qzR_kc h k hk
      rcases qzR_oc h c c1 with ⟨_, q2⟩ | ⟨k2, q1, q2, q3, q4⟩
      · exact absurd c2 (q2 k hk hop)
      · have e1 := qzR_ou h k2 k q1 hk (q3.trans c2.symm) q4 hop
        exact ⟨c, c1, by rw [q2]; exact qz_n5 (by omega), by rw [q2, nI_clamp (by omega), e1]⟩
  refine ⟨nI m, X2, upd (upd (upd (qz_cr y n p) 8 (-5)) 9 (-5)) 11 (y 11 + nI m), ?_, ?_, ⟨n, p, e, e, t, ?_, fun _ => rfl, hT⟩, ?_, nI_pos (by omega)⟩
  · rw [hloop2]
    unfold f_X3_loseAll_41
    rw [qz_rdc (show (2 : Int32) = nI 2 from rfl) (show 2 < 8 by omega), qz_nm, qz_gd (qz_in' (show (2 : Int32) = nI 2 from rfl) (show 2 < 8 by omega) (by omega)), qz_nm, qz_cl' (show (2 : Int32) = nI 2 from rfl) (by omega), lr 19 (by decide) (by decide), e1, qz_bv]
  · rw [hM2]
    unfold f_X8_doesCrash_47
    rw [qz_wr (v := 8) (w := 8) rfl (by omega), qz_wr (v := 9) (w := 9) rfl (by omega), qz_rd (v := 11) (w := 11) rfl (by omega), qz_nm, qz_wr (v := 11) (w := 11) rfl (by omega), qz_uo (show 11 ≠ 9 by decide), qz_uo (show 11 ≠ 8 by decide), qz_cr_o (by omega)]
  · have t0 := qzR_t0 h; have t1 := qzR_t1 h; have t2 := qzR_t2 h; have t3 := qzR_t3 h; have t4 := qzR_t4 h; have t5 := qzR_t5 h; have t6 := qzR_t6 h; have t7 := qzR_t7 h
    have y19 : X2 19 = upd (X 19) 2 (X 19 2 + nI m) := by rw [e7 19 (by decide) (by decide) (by decide), qz_up]
    have yo : ∀ a : Nat, a < 16 → a ≠ 8 → a ≠ 9 → a ≠ 11 → upd (upd (upd (qz_cr y n p) 8 (-5)) 9 (-5)) 11 (y 11 + nI m) a = y a := fun a a1 a8 a9 a11 => by rw [qz_uo a11, qz_uo a9, qz_uo a8, qz_cr_o (by omega)]
    refine qzo_crash (x := X) (y := y) h ?_ ?_ ?_ yo ?_ ?_ (by omega) e3 ?_ e4 ?_ e5 ?_ ?_ ?_ ?_ ?_ ?_
    · intro i _ i0 i5 i11 i15 i19 i20
      rw [e7 i i0 i11 i15, qz_un _ _ i19, lr i i5 i20]
    · intro s s1 s2
      rw [e2 s s1 s2, qz_un _ _ (by decide), lr 0 (by decide) (by decide)]
    · intro s s1
      exact e6 s s1
    · intro k w k1 k2 k3
      rw [qz_uo (by omega), qz_uo (by omega), qz_uo (by omega), qz_cr_o (by omega)]
    · intro j w k1 k2 k3
      rw [qz_uo (by omega), qz_uo (by omega), qz_uo (by omega), qz_cr_o (by omega)]
    · rw [qz_uo (by decide), qz_uo (by decide), qz_us]
    · rw [qz_uo (by decide), qz_us]
    · rw [y19]
      refine ⟨?_, ?_, ?_, ?_, ?_, ?_, ?_, ?_⟩
      · rw [qz_uo (by decide), yo 6 (by decide) (by decide) (by decide) (by decide)]; exact t0
      · rw [qz_uo (by decide), yo 10 (by decide) (by decide) (by decide) (by decide)]; exact t1
      · rw [qz_us, qz_us, t2]
      · rw [qz_uo (by decide), yo 12 (by decide) (by decide) (by decide) (by decide)]; exact t3
      · rw [qz_uo (by decide), yo 7 (by decide) (by decide) (by decide) (by decide)]; exact t4
      · rw [qz_uo (by decide), yo 13 (by decide) (by decide) (by decide) (by decide)]; exact t5
      · rw [qz_uo (by decide), yo 14 (by decide) (by decide) (by decide) (by decide)]; exact t6
      · rw [qz_uo (by decide), yo 15 (by decide) (by decide) (by decide) (by decide)]; exact t7
    · intro k hk
      rw [e7 5 (by decide) (by decide) (by decide), qz_un _ _ (by decide)]
      by_cases q : 4 ≤ y (16 + 8 * k + 3)
      · rw [if_pos q, (qz_lt_5 12 k).2 (fun u => (hopk k hk).mp u q)]
      · rw [if_neg q, (qz_lt_5 12 k).1 ((hopk k hk).mpr q)]
    · intro k hk
      obtain ⟨g, hg, eg⟩ := qzR_kg h k hk
      rw [qz_uo (by omega), qz_uo (by omega), qz_uo (by omega), qz_cr_3 (by omega)]
      by_cases q : 4 ≤ y (16 + 8 * k + 3)
      · rw [if_pos q, if_neg (fun u => u.2.1 q)]
      · rw [if_neg q, if_pos ⟨hk, q, by rw [eg, nI_clamp (by omega)]; exact hg⟩]
    · intro j hj
      rw [e8 j hj, qz_un _ _ (by decide), lr 11 (by decide) (by decide)]
    · intro j hj
      rw [qz_uo (by omega), qz_uo (by omega), qz_uo (by omega), qz_cr_g]
      by_cases q : 4 ≤ y (1216 + 4 * j + 0)
      · rw [if_pos q, if_neg (fun u => u.2 q)]
      · rw [if_neg q, if_pos ⟨hj, q⟩]
    · intro c hc
      rw [e7 20 (by decide) (by decide) (by decide), qz_un _ _ (by decide), qz_lt_20, if_pos hc]
  · intro i hi
    rw [e7 i (by omega) (by omega) (by omega), qz_un _ _ (by omega), lr i (by omega) (by omega)]
end QCR2
