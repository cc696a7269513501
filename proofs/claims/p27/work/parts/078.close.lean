-- a group is closed
section QCL
variable {X Z : XT} {y : Nat → Int32} {N n p f e t b j0 : Nat}
theorem qz_bvs {o : Option XT} : m_bv o (fun X => some X) = o := by cases o <;> rfl
theorem qz_bis {o : Option (Int32 × XT)} : m_bi o (fun r X => some (r, X)) = o := by cases o <;> rfl
def qz_w2 (m : Int32) (w a : Nat) : Nat := if m ≤ 1 then w - 1 else min (w + 1) a
theorem qz_learnC {m : Int32} {w a : Nat} (h7 : X 0 7 = nI w) (h18 : X 18 0 = nI a) (hw : w ≤ 20) (ha : a ≤ 20) : f_X3_learnWait N m X = some (m_up X 0 (upd (X 0) 7 (nI (qz_w2 m w a)))) := by
  unfold f_X3_learnWait qz_w2
  rw [h7]
  by_cases hm : m ≤ 1
  · rw [if_pos hm, if_pos hm, qz_nm, qz_nm, qz_nm]
    have e1 : (if nI w - 1 < 0 then 0 else nI w - 1) = nI (w - 1) := by
      by_cases h0 : w = 0
      · subst h0
        decide
      · have e2 : nI w - 1 = nI (w - 1) := by
          have q := nI_pred (w - 1)
          rwa [show w - 1 + 1 = w by omega] at q
        rw [e2, if_neg (nI_pos (by omega))]
    rw [e1]
  · rw [if_neg hm, if_neg hm, qz_nm, qz_valueOf (v := 0) (i := 0) rfl (by omega), qz_bi, qz_nm, qz_nm, h18, nI_1]
    have e1 : (if nI a < nI (w + 1) then nI a else nI (w + 1)) = nI (min (w + 1) a) := by
      by_cases hq : a < w + 1
      · rw [if_pos (nI_lt hq (by omega)), Nat.min_eq_right (by omega)]
      · rw [if_neg (nI_nlt (by omega) (by omega)), Nat.min_eq_left (by omega)]
    rw [e1]
theorem qz_close89 {v u : Int32} : f_X8_close_89 N v u (m_up Z 1 y) = f_X8_goOn N (m_up Z 1 (upd y 1 (if v ≤ u then (if 0 ≤ v then v else 0) else u))) := by
  unfold f_X8_close_89
  by_cases h1 : v ≤ u
  · rw [if_pos h1, if_pos h1]
    by_cases h2 : 0 ≤ v
    · rw [if_pos h2, if_pos h2, qz_wr (v := 1) (w := 1) rfl (by omega), qz_bvs]
    · rw [if_neg h2, if_neg h2, qz_wr (v := 1) (w := 1) rfl (by omega), qz_bvs]
  · rw [if_neg h1, if_neg h1, qz_wr (v := 1) (w := 1) rfl (by omega), qz_bvs]
theorem qz_learnM {w a : Nat} {g : Int32} (h6 : y 6 = nI n) (hn : n ≤ 150) (hN : 200 ≤ N) (h1 : y 1 = nI w) (h2 : y 2 = nI a) (hw : w ≤ 20) (ha : a ≤ 20) : (m_bi (f_X8_members N g (m_up Z 1 y)) fun r_24 X_24 => if r_24 ≤ 1 then (f_X8_close_68 N g (-1) (nI w) X_24) else (f_X8_close_68 N g 1 (nI w) X_24)) = f_X8_goOn N (m_up Z 1 (upd y 1 (nI (qz_w2 (qz_mem y n g) w a)))) := by
  rw [qz_members h6 hn hN, qz_bi]
  unfold qz_w2
  by_cases hm : qz_mem y n g ≤ 1
  · rw [if_pos hm, if_pos hm]
    unfold f_X8_close_68
    rw [qz_nm, qz_members h6 hn hN, qz_bi, if_pos hm, qz_close89, if_pos Int32.le_rfl]
    have e1 : (if 0 ≤ nI w + -1 then nI w + -1 else 0) = nI (w - 1) := by
      by_cases h0 : w = 0
      · subst h0
        decide
      · have e2 : nI w + -1 = nI (w - 1) := by
          have q := pk_m1 (w - 1)
          rwa [show w - 1 + 1 = w by omega] at q
        rw [e2, if_pos (nI_pos' (by omega))]
    rw [e1]
  · rw [if_neg hm, if_neg hm]
    unfold f_X8_close_68
    rw [qz_nm, qz_members h6 hn hN, qz_bi, if_neg hm, qz_rd (v := 2) (w := 2) rfl (by omega), h2, qz_close89, nI_1]
    have e1 : (if nI (w + 1) ≤ nI a then (if 0 ≤ nI (w + 1) then nI (w + 1) else 0) else nI a) = nI (min (w + 1) a) := by
      by_cases hq : w + 1 ≤ a
      · rw [if_pos (nI_le hq (by omega)), if_pos (nI_pos' (by omega)), Nat.min_eq_left hq]
      · rw [if_neg (nI_ge (by omega) (by omega)), Nat.min_eq_right (by omega)]
    rw [e1]
def qz_closed (X X2 : XT) (y y2 : Nat → Int32) (j0 e : Nat) : Prop :=
  (∀ i : Nat, X2 16 i = if i = e then nI j0 else X 16 i) ∧ X2 13 = X 13 ∧ X2 18 = X 18 ∧ X2 0 6 = X 0 6 ∧ X2 0 9 = X 0 9 ∧ X2 0 10 = X 0 10 ∧ X2 0 11 = X 0 11 ∧ X2 8 = X 8 ∧ y2 9 = y 9 ∧ y2 8 = -5 ∧ X2 20 = X 20
set_option maxHeartbeats 4000000 in
theorem qz_close {r : Int32} (h : qz_R X y n p f e t b) (hN : 200 ≤ N) (h8 : y 8 = nI j0) (hj : j0 < 150) : ∃ (X2 : XT) (y2 : Nat → Int32), f_X3_closeGathering N r X = some X2 ∧ f_X8_close N r (m_up Z 1 y) = f_X8_goOn N (m_up Z 1 y2) ∧ qz_R X2 y2 n p f (e + 1) t b ∧ qz_fr X X2 ∧ qz_closed X X2 y y2 j0 e := by
  have hp0 := (qzR_pn h).1
  have hn0 := qzR_nn h
  have hqb := qzR_qb h
  have hga : j0 + 1 = p ∧ y (1216 + 4 * j0 + 0) = 1 := by
    rcases qzR_ga h with q | ⟨j, q1, q2, q3, _⟩
    · exact absurd (q.symm.trans h8) (qz_5n (by omega))
    · rw [h8, nI_eq (by omega) (by omega)] at q2
      rw [q2]
      exact ⟨q1, q3⟩
  obtain ⟨hj0, hst⟩ := hga
  have hep : e < p := hqb.2.2 (by rw [h8]; exact qz_n5 (by omega))
  -- the core, on both sides
  have hC : f_X3_closeGathering N r X = (m_bi (f_X6_valueOf N 3 (m_up (m_up (m_up (m_up (m_up (m_up X 0 (upd (X 0) 8 (-5))) 11 (upd (X 11) j0 2)) 14 (upd (X 14) j0 r)) 5 (qz_mv X n (nI j0) 1 2)) 16 (upd (X 16) e (nI j0))) 15 (upd (X 15) 2 (nI (e + 1))))) fun r_9 X_9 => if r_9 = 1 then (m_bi (f_X1_membersOf N (nI j0) X_9) fun r_14 X_14 => m_bv (f_X3_learnWait N r_14 X_14) fun X_16 => some X_16) else (some X_9)) := by
    unfold f_X3_closeGathering
    rw [qz_nm, qzR_gx h, h8, qz_closeG (p := p) (by rw [qz_un _ _ (by decide)]; exact qzR_px h) (by omega) hp0, qz_bv]
    simp only [qz_un _ _ (show (11 : Nat) ≠ 0 by decide), qz_un _ _ (show (14 : Nat) ≠ 0 by decide)]
    rw [qz_move (n := n) (by simp only [qz_un _ _ (show (1 : Nat) ≠ 0 by decide), qz_un _ _ (show (1 : Nat) ≠ 14 by decide), qz_un _ _ (show (1 : Nat) ≠ 11 by decide)]; exact qzR_nx h) hn0 (by intro k hk; simp only [qz_un _ _ (show (9 : Nat) ≠ 0 by decide), qz_un _ _ (show (9 : Nat) ≠ 14 by decide), qz_un _ _ (show (9 : Nat) ≠ 11 by decide)]; exact qzR_b9 h k (by omega)) hN, qz_bv]
    unfold f_X4_add
    have e15 : m_up (m_up (m_up (m_up X 0 (upd (X 0) 8 (-5))) 11 (upd (X 11) j0 2)) 14 (upd (X 14) j0 r)) 5 (qz_mv (m_up (m_up (m_up X 0 (upd (X 0) 8 (-5))) 11 (upd (X 11) j0 2)) 14 (upd (X 14) j0 r)) n (nI j0) 1 2) 15 2 = nI e := by
      rw [qz_un _ _ (by decide), qz_un _ _ (by decide), qz_un _ _ (by decide), qz_un _ _ (by decide)]; exact qzR_qe h
    rw [e15, show (150 : Int32) = nI 150 from rfl, if_neg (nI_ge (by omega) (by omega)), qz_gd (qz_in (by omega) (by omega)), nI_clamp (by omega), qz_nm, qz_nm, qz_nm, qz_bv]
    have e16 : m_up (m_up (m_up (m_up X 0 (upd (X 0) 8 (-5))) 11 (upd (X 11) j0 2)) 14 (upd (X 14) j0 r)) 5 (qz_mv (m_up (m_up (m_up X 0 (upd (X 0) 8 (-5))) 11 (upd (X 11) j0 2)) 14 (upd (X 14) j0 r)) n (nI j0) 1 2) 16 = X 16 := by
      rw [qz_un _ _ (by decide), qz_un _ _ (by decide), qz_un _ _ (by decide), qz_un _ _ (by decide)]
    have e15b : m_up (m_up (m_up (m_up (m_up X 0 (upd (X 0) 8 (-5))) 11 (upd (X 11) j0 2)) 14 (upd (X 14) j0 r)) 5 (qz_mv (m_up (m_up (m_up X 0 (upd (X 0) 8 (-5))) 11 (upd (X 11) j0 2)) 14 (upd (X 14) j0 r)) n (nI j0) 1 2)) 16 (upd (X 16) e (nI j0)) 15 = X 15 := by
      rw [qz_un _ _ (by decide), qz_un _ _ (by decide), qz_un _ _ (by decide), qz_un _ _ (by decide), qz_un _ _ (by decide)]
    rw [e16, e15b, qzR_qe h, nI_1]
    rfl
  have hM : f_X8_close N r (m_up Z 1 y) = (m_gd (m_in 5 1816) <| m_nm (m_up Z 1 (qz_turn (upd (upd (upd y 8 (-5)) (1216 + 4 * j0 + 0) 2) (1216 + 4 * j0 + 2) r) n (nI j0) 2) 1 (Int32.toNatClampNeg 5)) fun y_13 => if y_13 = 1 then (m_gd (m_in 1 1816) <| m_nm (m_up Z 1 (qz_turn (upd (upd (upd y 8 (-5)) (1216 + 4 * j0 + 0) 2) (1216 + 4 * j0 + 2) r) n (nI j0) 2) 1 (Int32.toNatClampNeg 1)) fun y_21 => m_bi (f_X8_members N (nI j0) (m_up Z 1 (qz_turn (upd (upd (upd y 8 (-5)) (1216 + 4 * j0 + 0) 2) (1216 + 4 * j0 + 2) r) n (nI j0) 2))) fun r_24 X_24 => if r_24 ≤ 1 then (f_X8_close_68 N (nI j0) (-1) y_21 X_24) else (f_X8_close_68 N (nI j0) 1 y_21 X_24)) else (m_bv (f_X8_goOn N (m_up Z 1 (qz_turn (upd (upd (upd y 8 (-5)) (1216 + 4 * j0 + 0) 2) (1216 + 4 * j0 + 2) r) n (nI j0) 2))) fun X_19 => some X_19)) := by
    unfold f_X8_close
    rw [qz_rd (v := 8) (w := 8) rfl (by omega), h8, qz_wr (v := 8) (w := 8) rfl (by omega), qz_setG (v := 0) (w := 0) rfl (by omega) (by omega), qz_bv, qz_setG (v := 2) (w := 2) rfl (by omega) (by omega), qz_bv, qz_turnMembers (n := n) (by rw [qz_uo (by omega), qz_uo (by omega), qz_uo (by omega)]; exact qzR_ny h) hn0 hN, qz_bi]
  have hyo : ∀ a : Nat, a ≠ 8 → a ≠ 1216 + 4 * j0 + 0 → a ≠ 1216 + 4 * j0 + 2 → upd (upd (upd y 8 (-5)) (1216 + 4 * j0 + 0) 2) (1216 + 4 * j0 + 2) r a = y a := fun a a1 a2 a3 => by
    rw [qz_uo a3, qz_uo a2, qz_uo a1]
  have hmb : ∀ k : Nat, k < 150 → (qz_mb (upd (upd (upd y 8 (-5)) (1216 + 4 * j0 + 0) 2) (1216 + 4 * j0 + 2) r) k (nI j0) ↔ qz_mb y k (nI j0)) := fun k hk => by
    simp only [qz_mb]
    rw [hyo _ (by omega) (by omega) (by omega), hyo _ (by omega) (by omega) (by omega)]
  have hm1 : ∀ k : Nat, k < n → qz_mb y k (nI j0) → y (16 + 8 * k + 3) = 1 := fun k hk q => qzR_gm h k hk (q.1.trans h8.symm) q.2
  have hR : qz_R (m_up (m_up (m_up (m_up (m_up (m_up X 0 (upd (X 0) 8 (-5))) 11 (upd (X 11) j0 2)) 14 (upd (X 14) j0 r)) 5 (qz_mv X n (nI j0) 1 2)) 16 (upd (X 16) e (nI j0))) 15 (upd (X 15) 2 (nI (e + 1)))) (qz_turn (upd (upd (upd y 8 (-5)) (1216 + 4 * j0 + 0) 2) (1216 + 4 * j0 + 2) r) n (nI j0) 2) n p f (e + 1) t b := by
    refine qzo_close (x := X) (y := y) (j0 := j0) (r := r) h ?_ ?_ ?_ ?_ ?_ ?_ hj0 h8 hst ?_ ?_ ?_ ?_ ?_ ?_ ?_ ?_ ?_ ?_
    · intro i _ i0 i5 i11 i14 i15 i16
      rw [qz_un _ _ i15, qz_un _ _ i16, qz_un _ _ i5, qz_un _ _ i14, qz_un _ _ i11, qz_un _ _ i0]
    · intro s s1
      rw [qz_un _ _ (by decide), qz_un _ _ (by decide), qz_un _ _ (by decide), qz_un _ _ (by decide), qz_un _ _ (by decide), qz_up, qz_uo s1]
    · intro s s1
      rw [qz_up, qz_uo s1]
    · intro a a1 a2
      rw [qz_turn_o (by omega), hyo a a2 (by omega) (by omega)]
    · intro k w k1 w1 w2
      rw [qz_turn_o (by omega), hyo _ (by omega) (by omega) (by omega)]
    · intro j w j1 w1 w2 w3
      rw [qz_turn_o (by omega), hyo _ (by omega) (by omega) (by omega)]
    · rw [qz_un _ _ (by decide), qz_un _ _ (by decide), qz_un _ _ (by decide), qz_un _ _ (by decide), qz_un _ _ (by decide), qz_up, qz_us]
    · rw [qz_turn_o (by omega), qz_uo (by omega), qz_uo (by omega), qz_us]
    · rw [qz_up, qz_us]
    · intro k hk
      rw [qz_un _ _ (by decide), qz_un _ _ (by decide), qz_up]
      unfold qz_mv
      have e8 := qzR_c8 h k hk
      have e9 := qzR_c9 h k hk
      have e5 := qzR_c5 h k hk
      by_cases q : qz_mb y k (nI j0)
      · rw [if_pos q, if_pos ⟨hk, ⟨by rw [e8]; exact q.1, by rw [e9]; exact q.2⟩, by rw [e5]; exact hm1 k hk q⟩]
      · rw [if_neg q, if_neg (fun u => q ⟨by rw [← e8]; exact u.2.1.1, by rw [← e9]; exact u.2.1.2⟩)]
    · intro k hk
      rw [qz_turn_3, hyo _ (by omega) (by omega) (by omega)]
      by_cases q : qz_mb y k (nI j0)
      · rw [if_pos q, if_pos ⟨hk, (hmb k (by omega)).mpr q, by rw [hm1 k hk q]; decide⟩]
      · rw [if_neg q, if_neg (fun u => q ((hmb k (by omega)).mp u.2.1))]
    · intro j
      rw [qz_un _ _ (by decide), qz_un _ _ (by decide), qz_un _ _ (by decide), qz_un _ _ (by decide), qz_up]
      rfl
    · intro j
      rw [qz_un _ _ (by decide), qz_un _ _ (by decide), qz_un _ _ (by decide), qz_up]
      rfl
    · intro i
      rw [qz_un _ _ (by decide), qz_up]
      rfl
    · intro j hj
      rw [qz_turn_o (by omega), qz_uo (by omega)]
      by_cases q : j = j0
      · rw [if_pos q, q, qz_us]
      · rw [if_neg q, qz_uo (by omega), qz_uo (by omega)]
    · intro j hj
      rw [qz_turn_o (by omega)]
      by_cases q : j = j0
      · rw [if_pos q, q, qz_us]
      · rw [if_neg q, qz_uo (by omega), qz_uo (by omega), qz_uo (by omega)]
  have hfr : qz_fr X (m_up (m_up (m_up (m_up (m_up (m_up X 0 (upd (X 0) 8 (-5))) 11 (upd (X 11) j0 2)) 14 (upd (X 14) j0 r)) 5 (qz_mv X n (nI j0) 1 2)) 16 (upd (X 16) e (nI j0))) 15 (upd (X 15) 2 (nI (e + 1)))) := by
    intro i hi
    rw [qz_un _ _ (by omega), qz_un _ _ (by omega), qz_un _ _ (by omega), qz_un _ _ (by omega), qz_un _ _ (by omega), qz_un _ _ (by omega)]
  have hcl : qz_closed X (m_up (m_up (m_up (m_up (m_up (m_up X 0 (upd (X 0) 8 (-5))) 11 (upd (X 11) j0 2)) 14 (upd (X 14) j0 r)) 5 (qz_mv X n (nI j0) 1 2)) 16 (upd (X 16) e (nI j0))) 15 (upd (X 15) 2 (nI (e + 1)))) y (qz_turn (upd (upd (upd y 8 (-5)) (1216 + 4 * j0 + 0) 2) (1216 + 4 * j0 + 2) r) n (nI j0) 2) j0 e := by
    refine ⟨fun i => ?_, ?_, ?_, ?_, ?_, ?_, ?_, ?_, ?_, ?_, ?_⟩
    · rw [qz_un _ _ (by decide), qz_up]
      rfl
    · rw [qz_un _ _ (by decide), qz_un _ _ (by decide), qz_un _ _ (by decide), qz_un _ _ (by decide), qz_un _ _ (by decide), qz_un _ _ (by decide)]
    · rw [qz_un _ _ (by decide), qz_un _ _ (by decide), qz_un _ _ (by decide), qz_un _ _ (by decide), qz_un _ _ (by decide), qz_un _ _ (by decide)]
    · rw [qz_un _ _ (by decide), qz_un _ _ (by decide), qz_un _ _ (by decide), qz_un _ _ (by decide), qz_un _ _ (by decide), qz_up, qz_uo (by decide)]
    · rw [qz_un _ _ (by decide), qz_un _ _ (by decide), qz_un _ _ (by decide), qz_un _ _ (by decide), qz_un _ _ (by decide), qz_up, qz_uo (by decide)]
    · rw [qz_un _ _ (by decide), qz_un _ _ (by decide), qz_un _ _ (by decide), qz_un _ _ (by decide), qz_un _ _ (by decide), qz_up, qz_uo (by decide)]
    · rw [qz_un _ _ (by decide), qz_un _ _ (by decide), qz_un _ _ (by decide), qz_un _ _ (by decide), qz_un _ _ (by decide), qz_up, qz_uo (by decide)]
    · rw [qz_un _ _ (by decide), qz_un _ _ (by decide), qz_un _ _ (by decide), qz_un _ _ (by decide), qz_un _ _ (by decide), qz_un _ _ (by decide)]
    · rw [qz_turn_o (by omega), hyo _ (by omega) (by omega) (by omega)]
    · rw [qz_turn_o (by omega), qz_uo (by omega), qz_uo (by omega), qz_us]
    · rw [qz_un _ _ (by decide), qz_un _ _ (by decide), qz_un _ _ (by decide), qz_un _ _ (by decide), qz_un _ _ (by decide), qz_un _ _ (by decide)]
  generalize m_up (m_up (m_up (m_up (m_up (m_up X 0 (upd (X 0) 8 (-5))) 11 (upd (X 11) j0 2)) 14 (upd (X 14) j0 r)) 5 (qz_mv X n (nI j0) 1 2)) 16 (upd (X 16) e (nI j0))) 15 (upd (X 15) 2 (nI (e + 1))) = Xc at hC hR hfr hcl
  generalize qz_turn (upd (upd (upd y 8 (-5)) (1216 + 4 * j0 + 0) 2) (1216 + 4 * j0 + 2) r) n (nI j0) 2 = yc at hM hR hcl
  rw [qz_valueOf (v := 3) (i := 3) rfl (by omega), qz_bi, qzR_sx hR 3 (by omega)] at hC
  rw [qz_rd (v := 5) (w := 5) rfl (by omega)] at hM
  by_cases hl : yc 5 = 1
  · rw [if_pos hl, qz_membersG (p := p) (qzR_px hR) (by omega) hp0, qz_bi, qz_bvs] at hC
    rw [if_pos hl, qz_rd (v := 1) (w := 1) rfl (by omega)] at hM
    obtain ⟨w, w1, w2⟩ := qzR_wr hR
    obtain ⟨a, a1, a2⟩ := qzR_s0 hR
    have hs0 : Xc 18 0 = nI a := (qzR_sx hR 0 (by omega)).trans a2
    rw [qz_learnC ((qzR_wx hR).trans w2) hs0 w1 a1, qzR_g12 hR j0 (by omega)] at hC
    rw [w2, qz_learnM (qzR_ny hR) hn0 hN w2 a2 w1 a1] at hM
    have hw3 : qz_w2 (qz_mem yc n (nI j0)) w a ≤ 20 := by
      unfold qz_w2
      split <;> omega
    refine ⟨_, _, hC, hM, ?_, qz_fr_tr hfr (qz_fr_up (by omega)), ?_⟩
    · refine qzo_wait (x := Xc) (y := yc) hR ?_ ?_ ?_ ?_ ?_ ?_ ⟨_, hw3, qz_us⟩
      · intro i _ i0
        rw [qz_un _ _ i0]
      · intro s s1
        rw [qz_up, qz_uo s1]
      · intro q q1 q2
        exact qz_uo q2
      · intro k w k1 k2
        exact qz_uo (by omega)
      · intro k w k1 k2
        exact qz_uo (by omega)
      · rw [qz_up, qz_us, qz_us]
    · obtain ⟨c1, c2, c3, c4, c5, c6, c7, c8, c9, c10, c11⟩ := hcl
      refine ⟨fun i => ?_, ?_, ?_, ?_, ?_, ?_, ?_, ?_, ?_, ?_, ?_⟩
      · rw [qz_un _ _ (by decide)]; exact c1 i
      · rw [qz_un _ _ (by decide)]; exact c2
      · rw [qz_un _ _ (by decide)]; exact c3
      · rw [qz_up, qz_uo (by decide)]; exact c4
      · rw [qz_up, qz_uo (by decide)]; exact c5
      · rw [qz_up, qz_uo (by decide)]; exact c6
      · rw [qz_up, qz_uo (by decide)]; exact c7
      · rw [qz_un _ _ (by decide)]; exact c8
      · rw [qz_uo (by decide)]; exact c9
      · rw [qz_uo (by decide)]; exact c10
      · rw [qz_un _ _ (by decide)]; exact c11
  · rw [if_neg hl] at hC
    rw [if_neg hl, qz_bvs] at hM
    exact ⟨Xc, yc, hC, hM, hR, hfr, hcl⟩
end QCL
theorem qz_in' {v : Int32} {k n : Nat} (hv : v = nI k) (h : k < n) (hn : n < 2 ^ 31) : m_in v n := by subst hv; exact nI_in h hn
theorem qz_cl' {v : Int32} {k : Nat} (hv : v = nI k) (hk : k < 2 ^ 31) : v.toNatClampNeg = k := by subst hv; exact nI_clamp hk
theorem qz_rdc {α : Type} {v : Int32} {k n : Nat} (hv : v = nI k) (hk : k < n) {row : Nat → Int32} (K : Int32 → Option α) (hn : n < 2 ^ 31 := by omega) : (m_gd (m_in v n) (m_nm (row v.toNatClampNeg) K)) = K (row k) := by
  subst hv
  rw [qz_gd (qz_in hk hn), nI_clamp (by omega)]
  rfl
