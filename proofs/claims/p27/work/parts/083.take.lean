-- a commit is lost or withdrawn
section QK
variable {X Z : XT} {y : Nat → Int32} {N n p f e t b c0 k0 j0 : Nat} {w0 : Int32}
theorem qz_mem_nat (y : Nat → Int32) (g : Int32) : ∀ n : Nat, ∃ c : Nat, c ≤ n ∧ qz_mem y n g = nI c ∧ (c = 0 → ∀ k : Nat, k < n → ¬ qz_mb y k g) ∧ (c ≠ 0 → ∃ k : Nat, k < n ∧ qz_mb y k g)
  | 0 => ⟨0, Nat.le_refl _, rfl, fun _ k hk => absurd hk (by omega), fun q => absurd rfl q⟩
  | n + 1 => by
    obtain ⟨c, h1, h2, h3, h4⟩ := qz_mem_nat y g n
    have e1 : qz_mem y (n + 1) g = qz_mem y n g + (if qz_mb y n g then 1 else 0) := rfl
    rw [e1, h2]
    by_cases hm : qz_mb y n g
    · exact ⟨c + 1, by omega, by rw [if_pos hm, nI_1], fun q => absurd q (by omega), fun _ => ⟨n, by omega, hm⟩⟩
    · refine ⟨c, by omega, by rw [if_neg hm, Int32.add_zero], fun q k hk => ?_, fun q => ?_⟩
      · by_cases e2 : k = n
        · rw [e2]; exact hm
        · exact h3 q k (by omega)
      · obtain ⟨k, k1, k2⟩ := h4 q
        exact ⟨k, by omega, k2⟩
theorem qz_setOpen {v : Int32} (hc : c0 < 12) : f_X3_setOpenCommit N (nI c0) v X = some (m_up X 20 (upd (X 20) c0 v)) := by
  unfold f_X3_setOpenCommit
  rw [qz_isClientC hc, qz_bi, if_neg (by decide), qz_gd (qz_in hc (by omega)), qz_nm, nI_clamp (by omega)]
theorem qz_endCommit (h1 : X 1 8 = nI n) (hn : n ≤ 150) (hk : k0 < n) (hcl : X 2 k0 = nI c0) (hc : c0 < 12) : f_X3_endCommit N (nI k0) w0 X = some (m_up (m_up X 5 (upd (X 5) k0 w0)) 20 (upd (X 20) c0 (-5))) := by
  unfold f_X3_endCommit
  rw [qz_setState h1 hk hn, qz_bv, qz_clientOf (n := n) (by rw [qz_un _ _ (by decide)]; exact h1) hk hn, qz_bi, qz_un _ _ (show (2 : Nat) ≠ 5 by decide), hcl, qz_setOpen hc, qz_bv, qz_un _ _ (show (20 : Nat) ≠ 5 by decide)]
-- what the removal of an open commit keeps
set_option maxHeartbeats 4000000 in
theorem qz_takeOut (h : qz_R X y n p f e t 0) (hN : 200 ≤ N) (hk : k0 < n) (hc : c0 < 12) (hcl : y (16 + 8 * k0 + 0) = nI c0) (hw1 : y (16 + 8 * k0 + 3) = 1) (hw0 : w0 = 5 ∨ w0 = 6) :
    ∃ (X1 X2 : XT) (y2 : Nat → Int32), f_X3_leaveGathering N (nI k0) X = some X1 ∧ f_X3_endCommit N (nI k0) w0 X1 = some X2 ∧ f_X8_takeOut N (nI k0) w0 (m_up Z 1 y) = some (m_up Z 1 y2) ∧ qz_R X2 y2 n p f e t 0 ∧ qz_fr X X2 ∧ y2 9 = y 9 := by
  have hp0 := (qzR_pn h).1
  have hn0 := qzR_nn h
  have hpn := (qzR_pn h).2.2 (by decide)
  have hop : ¬ 4 ≤ y (16 + 8 * k0 + 3) := by rw [hw1]; decide
  obtain ⟨hg7, hgs⟩ := qzR_ko h k0 hk hop
  obtain ⟨j0, hj0, hg6⟩ := qzR_kg h k0 hk
  have hst : y (1216 + 4 * j0 + 0) = 1 := (hgs j0 hj0 hg6).trans hw1
  have h8 : y 8 = nI j0 := qzR_gu h j0 hj0 hst
  have hj1 : j0 + 1 = p := by
    rcases qzR_ga h with q | ⟨j, q1, q2, _⟩
    · exact absurd (q.symm.trans h8) (qz_5n (by omega))
    · rw [h8, nI_eq (by omega) (by omega)] at q2
      rw [q2]; exact q1
  -- both ask for the leader alike
  have hlead : qz_at (fun i => X 8 i = nI j0 ∧ X 9 i = 1) n 0 0 = qz_at (fun i => qz_mb y i (nI j0)) n 0 0 := qz_at_c n 0 0 (fun i _ hi => by rw [qzR_c8 h i (by omega), qzR_c9 h i (by omega)])
  have hb9 : ∀ k : Nat, k < n → X 9 k = 0 ∨ X 9 k = 1 := fun k hk => qzR_b9 h k (by omega)
  have hmC := qz_memberAtC (N := N) (g := nI j0) (r := 0) (qzR_nx h) hn0 hb9 (by omega) hN
  have hmM := qz_memberAt (N := N) (Z := Z) (g := nI j0) (r := 0) (qzR_ny h) hn0 hN (by omega)
  rw [nI_0] at hmC hmM
  rw [hlead] at hmC
  -- the state without the commit
  have e2 : X 2 k0 = nI c0 := (qzR_c2 h k0 hk).trans hcl
  have e3 : X 3 k0 = y (16 + 8 * k0 + 1) := qzR_c3 h k0 hk
  have hyo : ∀ a : Nat, a ≠ 16 + 8 * k0 + 3 → a ≠ 16 + 8 * k0 + 7 → upd (upd y (16 + 8 * k0 + 3) w0) (16 + 8 * k0 + 7) 0 a = y a := fun a a1 a2 => by rw [qz_uo a2, qz_uo a1]
  have hy3 : ∀ k : Nat, k < 150 → upd (upd y (16 + 8 * k0 + 3) w0) (16 + 8 * k0 + 7) 0 (16 + 8 * k + 3) = if k = k0 then w0 else y (16 + 8 * k + 3) := fun k hk => by
    rw [qz_uo (by omega)]
    by_cases q : k = k0
    · rw [if_pos q, q, qz_us]
    · rw [if_neg q, qz_uo (by omega)]
  have hy7 : ∀ k : Nat, k < 150 → upd (upd y (16 + 8 * k0 + 3) w0) (16 + 8 * k0 + 7) 0 (16 + 8 * k + 7) = if k = k0 then 0 else y (16 + 8 * k + 7) := fun k hk => by
    by_cases q : k = k0
    · rw [if_pos q, q, qz_us]
    · rw [if_neg q, qz_uo (by omega), qz_uo (by omega)]
  have hRV : qz_R (m_up (m_up (m_up (m_up (m_up X 9 (upd (X 9) k0 0)) 12 (upd (X 12) j0 (X 12 j0 - 1))) 13 (upd (X 13) j0 (X 13 j0 - X 3 k0))) 5 (upd (X 5) k0 w0)) 20 (upd (X 20) c0 (-5))) (upd (upd y (16 + 8 * k0 + 3) w0) (16 + 8 * k0 + 7) 0) n p f e t 1 := by
    refine qzo_takeout (x := X) (y := y) (k0 := k0) (c0 := c0) (j0 := j0) (w0 := w0) h ?_ ?_ ?_ ?_ (by omega) hk hc hj0 h8 hcl hw1 hg6 hg7 hw0 ?_ ?_ ?_ ?_ ?_ hy3 hy7
    · intro i _ i5 i9 i12 i13 i20
      rw [qz_un _ _ i20, qz_un _ _ i5, qz_un _ _ i13, qz_un _ _ i12, qz_un _ _ i9]
    · intro a a1
      exact hyo a (by omega) (by omega)
    · intro k w k1 k2 k3 k7
      exact hyo _ (by omega) (by omega)
    · intro j w k1 k2
      exact hyo _ (by omega) (by omega)
    · intro k
      rw [qz_un _ _ (by decide), qz_up]
      rfl
    · intro k
      rw [qz_un _ _ (by decide), qz_un _ _ (by decide), qz_un _ _ (by decide), qz_un _ _ (by decide), qz_up]
      rfl
    · intro j
      rw [qz_un _ _ (by decide), qz_un _ _ (by decide), qz_un _ _ (by decide), qz_up]
      by_cases q : j = j0
      · rw [if_pos q, q, qz_us]
      · rw [if_neg q, qz_uo q]
    · intro j
      rw [qz_un _ _ (by decide), qz_un _ _ (by decide), qz_up, e3]
      by_cases q : j = j0
      · rw [if_pos q, q, qz_us]
      · rw [if_neg q, qz_uo q]
    · intro c
      rw [qz_up]
      rfl
  have h12 : X 12 j0 - 1 = qz_mem (upd (upd y (16 + 8 * k0 + 3) w0) (16 + 8 * k0 + 7) 0) n (nI j0) := by
    have q := qzR_g12 hRV j0 hj0
    rwa [qz_un _ _ (by decide), qz_un _ _ (by decide), qz_un _ _ (by decide), qz_up, qz_us] at q
  obtain ⟨m, m1, m2, m3, m4⟩ := qz_mem_nat (upd (upd y (16 + 8 * k0 + 3) w0) (16 + 8 * k0 + 7) 0) (nI j0) n
  have hM : f_X8_takeOut N (nI k0) w0 (m_up Z 1 y) = f_X8_takeOut_23 N (nI k0) w0 (nI j0) (if qz_at (fun i => qz_mb y i (nI j0)) n 0 0 = nI k0 then 1 else 0) (m_up Z 1 y) := by
    unfold f_X8_takeOut
    rw [qz_rd (v := 8) (w := 8) rfl (by omega), h8, hmM, qz_bi]
    split <;> rfl
  have hM2 : ∀ u : Int32, f_X8_takeOut_23 N (nI k0) w0 (nI j0) u (m_up Z 1 y) = (if nI m = 0 then (m_bv (f_X8_setGroup N (nI j0) 0 5 (m_up Z 1 (upd (upd y (16 + 8 * k0 + 3) w0) (16 + 8 * k0 + 7) 0))) fun X_31 => m_gd (m_in 8 1816) <| m_nm (m_up X_31 1 (upd (X_31 1) (Int32.toNatClampNeg 8) (-5))) fun X_33 => some X_33) else (if u = 0 then (some (m_up Z 1 (upd (upd y (16 + 8 * k0 + 3) w0) (16 + 8 * k0 + 7) 0))) else (some (m_up Z 1 (upd (upd (upd y (16 + 8 * k0 + 3) w0) (16 + 8 * k0 + 7) 0) (1216 + 4 * j0 + 1) (y 0 + y 1)))))) := by
    intro u
    unfold f_X8_takeOut_23
    rw [qz_setOf (v := 3) (w := 3) rfl (by omega) (by omega), qz_bv, qz_setOf (v := 7) (w := 7) rfl (by omega) (by omega), qz_bv, qz_members (n := n) (by rw [hyo _ (by omega) (by omega)]; exact qzR_ny h) hn0 hN, qz_bi, m2, qz_rd (v := 0) (w := 0) rfl (by omega), qz_rd (v := 1) (w := 1) rfl (by omega), qz_nm, qz_setG (v := 1) (w := 1) rfl (by omega) (by omega), qz_bv, hyo 0 (by omega) (by omega), hyo 1 (by omega) (by omega)]
  have hC : f_X3_leaveGathering N (nI k0) X = f_X3_leaveGathering_21 N (nI k0) (if qz_at (fun i => qz_mb y i (nI j0)) n 0 0 = nI k0 then 1 else 0) X := by
    unfold f_X3_leaveGathering
    rw [qzR_gx h, h8, hmC, qz_bi]
    split <;> rfl
  have hC2 : ∀ u : Int32, f_X3_leaveGathering_21 N (nI k0) u X = (if nI m = 0 then (some (m_up (m_up (m_up (m_up (m_up X 9 (upd (X 9) k0 0)) 12 (upd (X 12) j0 (X 12 j0 - 1))) 13 (upd (X 13) j0 (X 13 j0 - X 3 k0))) 11 (upd (X 11) j0 5)) 0 (upd (X 0) 8 (-5)))) else (if u = 0 then (some (m_up (m_up (m_up X 9 (upd (X 9) k0 0)) 12 (upd (X 12) j0 (X 12 j0 - 1))) 13 (upd (X 13) j0 (X 13 j0 - X 3 k0)))) else (some (m_up (m_up (m_up (m_up X 9 (upd (X 9) k0 0)) 12 (upd (X 12) j0 (X 12 j0 - 1))) 13 (upd (X 13) j0 (X 13 j0 - X 3 k0))) 0 (upd (X 0) 9 (X 0 6 + X 0 7)))))) := by
    intro u
    unfold f_X3_leaveGathering_21
    rw [qz_leaveGroup (qzR_nx h) hk hn0, qz_bv, qz_recordsOfC (n := n) (by rw [qz_un _ _ (by decide)]; exact qzR_nx h) hk hn0, qz_bi]
    simp only [qz_un X _ (show (0 : Nat) ≠ 9 by decide), qz_un X _ (show (3 : Nat) ≠ 9 by decide)]
    rw [qzR_gx h, h8, qz_leaveG (p := p) (by rw [qz_un _ _ (by decide)]; exact qzR_px h) hj0 hp0, qz_bv]
    simp only [qz_un X _ (show (12 : Nat) ≠ 9 by decide), qz_un X _ (show (13 : Nat) ≠ 9 by decide), qz_un _ _ (show (0 : Nat) ≠ 13 by decide), qz_un _ _ (show (0 : Nat) ≠ 12 by decide), qz_un _ _ (show (0 : Nat) ≠ 9 by decide)]
    rw [qzR_gx h, h8, qz_membersG (p := p) (by rw [qz_un _ _ (by decide), qz_un _ _ (by decide), qz_un _ _ (by decide)]; exact qzR_px h) hj0 hp0, qz_bi]
    rw [qz_un _ _ (show (12 : Nat) ≠ 13 by decide), qz_up, qz_us, h12, m2]
    simp only [qz_un _ _ (show (0 : Nat) ≠ 13 by decide), qz_un _ _ (show (0 : Nat) ≠ 12 by decide), qz_un _ _ (show (0 : Nat) ≠ 9 by decide)]
    rw [qzR_gx h, h8, qz_setStateG (p := p) (by rw [qz_un _ _ (by decide), qz_un _ _ (by decide), qz_un _ _ (by decide)]; exact qzR_px h) hj0 hp0, qz_bv]
    simp only [qz_nm, qz_un _ _ (show (0 : Nat) ≠ 11 by decide), qz_un _ _ (show (0 : Nat) ≠ 13 by decide), qz_un _ _ (show (0 : Nat) ≠ 12 by decide), qz_un _ _ (show (0 : Nat) ≠ 9 by decide), qz_un _ _ (show (11 : Nat) ≠ 13 by decide), qz_un _ _ (show (11 : Nat) ≠ 12 by decide), qz_un _ _ (show (11 : Nat) ≠ 9 by decide)]
  rw [hC, hM, hC2, hM2]
  have hEnd : ∀ W : XT, W 1 = X 1 → W 2 = X 2 → f_X3_endCommit N (nI k0) w0 W = some (m_up (m_up W 5 (upd (W 5) k0 w0)) 20 (upd (W 20) c0 (-5))) := fun W q1 q2 => qz_endCommit (n := n) (by rw [q1]; exact qzR_nx h) hn0 hk (by rw [q2]; exact e2) hc
  obtain ⟨wt, wt1, wt2⟩ := qzR_wr h
  have hyV9 : upd (upd y (16 + 8 * k0 + 3) w0) (16 + 8 * k0 + 7) 0 9 = y 9 := hyo 9 (by omega) (by omega)
  have hyV8 : upd (upd y (16 + 8 * k0 + 3) w0) (16 + 8 * k0 + 7) 0 8 = nI j0 := (hyo 8 (by omega) (by omega)).trans h8
  have hyVs : upd (upd y (16 + 8 * k0 + 3) w0) (16 + 8 * k0 + 7) 0 (1216 + 4 * j0 + 0) = 1 := (hyo _ (by omega) (by omega)).trans hst
  by_cases hm : m = 0
  · subst hm
    rw [if_pos nI_0, if_pos nI_0, qz_setG (v := 0) (w := 0) rfl (by omega) (by omega), qz_bv, qz_wr (v := 8) (w := 8) rfl (by omega)]
    refine ⟨_, _, _, rfl, hEnd _ (by simp only [m_up]; rfl) (by simp only [m_up]; rfl), rfl, ?_, ?_, ?_⟩
    · refine qzo_gone (j0 := j0) hRV ?_ ?_ ?_ ?_ ?_ (by omega) hpn hj1 hyV8 hyVs (m3 rfl) ?_ ?_ ?_ ?_
      · intro i hi i0 i11
        simp only [m_up, if_neg i0, if_neg i11]
        repeat' split
        all_goals first | rfl | omega
      · intro s s1
        simp only [m_up]
        simp [upd, s1]
      · intro a a1 a2
        rw [qz_uo a2, qz_uo (by omega)]
      · intro k w k1 k2
        rw [qz_uo (by omega), qz_uo (by omega)]
      · intro j w k1 k2 k3
        rw [qz_uo (by omega), qz_uo (by omega)]
      · simp [m_up, upd]
      · rw [qz_us]
      · intro j
        simp [m_up, upd]
      · intro j hj
        rw [qz_uo (by omega)]
        by_cases q : j = j0
        · rw [if_pos q, q, qz_us]
        · rw [if_neg q, qz_uo (by omega)]
    · intro i hi
      simp only [m_up]
      repeat' split
      all_goals first | rfl | omega
    · rw [qz_uo (by omega), qz_uo (by omega)]
      exact hyV9
  · have hm0 : ¬ nI m = 0 := nI_ne0 (by omega) (by omega)
    rw [if_neg hm0, if_neg hm0]
    have hgi : ∃ k : Nat, k < n ∧ qz_mb (upd (upd y (16 + 8 * k0 + 3) w0) (16 + 8 * k0 + 7) 0) k (nI j0) := m4 hm
    by_cases hl : qz_at (fun i => qz_mb y i (nI j0)) n 0 0 = nI k0
    · rw [if_pos hl, if_neg (by decide), if_neg (by decide)]
      refine ⟨_, _, _, rfl, hEnd _ (by simp only [m_up]; rfl) (by simp only [m_up]; rfl), rfl, ?_, ?_, ?_⟩
      · refine qzo_give (b := 1) ?_ (by omega) hpn ?_
        · refine qzo_end (j0 := j0) (v := y 0 + y 1) hRV ?_ ?_ ?_ ?_ ?_ hj1 hyV8 hyVs ?_ qz_us ⟨t + wt, by omega, by rw [qzR_ty h, wt2, nI_add]⟩
          · intro i hi i0
            simp only [m_up, if_neg i0]
            repeat' split
            all_goals first | rfl | omega
          · intro s s1
            simp only [m_up]
            simp [upd, s1]
          · intro a a1
            rw [qz_uo (by omega)]
          · intro k w k1 k2
            rw [qz_uo (by omega)]
          · intro j w k1 k2 k3
            rw [qz_uo (by omega)]
          · have q1 := qzR_tx h
            have q2 := qzR_ty h
            have q3 := qzR_wx h
            simp [m_up, upd]
            rw [q1, q2, q3]
        · intro _
          obtain ⟨k, k1, k2, k3⟩ := hgi
          refine ⟨k, k1, ?_, ?_⟩
          · rw [qz_uo (show 16 + 8 * k + 6 ≠ 1216 + 4 * j0 + 1 by omega), qz_uo (show 8 ≠ 1216 + 4 * j0 + 1 by omega), hyV8]; exact k2
          · rw [qz_uo (show 16 + 8 * k + 7 ≠ 1216 + 4 * j0 + 1 by omega)]; exact k3
      · intro i hi
        simp only [m_up]
        repeat' split
        all_goals first | rfl | omega
      · rw [qz_uo (by omega)]
        exact hyV9
    · rw [if_neg hl, if_pos rfl, if_pos rfl]
      refine ⟨_, _, _, rfl, hEnd _ (by simp only [m_up]; rfl) (by simp only [m_up]; rfl), rfl, ?_, ?_, ?_⟩
      · have q := qzo_give hRV (by omega) hpn (fun _ => by
          obtain ⟨k, k1, k2, k3⟩ := hgi
          exact ⟨k, k1, by rw [hyV8]; exact k2, k3⟩)
        exact q
      · intro i hi
        simp only [m_up]
        repeat' split
        all_goals first | rfl | omega
      · exact hyV9
end QK
