-- the queue, and the next group that is written
section QG
variable {X Z : XT} {y : Nat → Int32} {N n p f e t b : Nat}
abbrev qz_P2 (y : Nat → Int32) (i : Nat) : Prop := y (1216 + 4 * i + 0) = 2
theorem qz_queue_l (h : qz_R X y n p f e t b) : ∀ d k i r : Nat, k + d = p → f ≤ i → i ≤ e → (∀ i2 j : Nat, f ≤ i2 → i2 < i → j < 150 → X 16 i2 = nI j → j < k) → (∀ i2 j : Nat, i ≤ i2 → i2 < e → j < 150 → X 16 i2 = nI j → k ≤ j) → qz_at (qz_P2 y) d k r = if i + r < e then X 16 (i + r) else -5 := by
  have hp0 := (qzR_pn h).1
  intro d
  induction d with
  | zero =>
    intro k i r hk h1 h2 _ h4
    have hie : i = e := by
      apply Nat.le_antisymm h2
      apply Nat.le_of_not_lt
      intro hlt
      obtain ⟨j, q1, q2, q3⟩ := qzR_qs h i h1 hlt
      have := h4 i j (Nat.le_refl _) hlt (by omega) q2
      omega
    rw [if_neg (by omega)]
    rfl
  | succ d ih =>
    intro k i r hk h1 h2 h3 h4
    show (if qz_P2 y k then (if r = 0 then nI k else qz_at (qz_P2 y) d (k + 1) (r - 1)) else qz_at (qz_P2 y) d (k + 1) r) = _
    by_cases hq : qz_P2 y k
    · rw [if_pos hq]
      obtain ⟨i1, u1, u2, u3⟩ := qzR_qc h k (by omega) hq
      have hi1 : i1 = i := by
        rcases Nat.lt_trichotomy i1 i with q | q | q
        · have := h3 i1 k u1 q (by omega) u3
          omega
        · exact q
        · obtain ⟨j, q1, q2, q3⟩ := qzR_qs h i h1 (by omega)
          have a1 := h4 i j (Nat.le_refl _) (by omega) (by omega) q2
          have a2 := qzR_qi h i i1 j k h1 q u2 (by omega) (by omega) q2 u3
          omega
      subst hi1
      by_cases hr : r = 0
      · subst hr
        rw [if_pos rfl, Nat.add_zero, if_pos u2, u3]
      · rw [if_neg hr, ih (k + 1) (i1 + 1) (r - 1) (by omega) (by omega) (by omega) ?_ ?_, show i1 + 1 + (r - 1) = i1 + r by omega]
        · intro i2 j a1 a2 a3 a4
          by_cases a5 : i2 = i1
          · rw [a5, u3, nI_eq (by omega) (by omega)] at a4
            omega
          · have := h3 i2 j a1 (by omega) a3 a4
            omega
        · intro i2 j a1 a2 a3 a4
          have := qzR_qi h i1 i2 k j h1 (by omega) a2 (by omega) a3 u3 a4
          omega
    · rw [if_neg hq]
      refine ih (k + 1) i r (by omega) h1 h2 (fun i2 j a1 a2 a3 a4 => by have := h3 i2 j a1 a2 a3 a4; omega) (fun i2 j a1 a2 a3 a4 => ?_)
      have a5 := h4 i2 j a1 a2 a3 a4
      obtain ⟨j2, q1, q2, q3⟩ := qzR_qs h i2 (by omega) a2
      rw [a4, nI_eq (by omega) (by omega)] at q2
      have a6 : j ≠ k := fun q => hq (by rw [← q, q2]; exact q3)
      omega
theorem qz_queue (h : qz_R X y n p f e t b) (r : Nat) : qz_at (qz_P2 y) p 0 r = if f + r < e then X 16 (f + r) else -5 :=
  qz_queue_l h p 0 f r (by omega) (Nat.le_refl _) (qzR_qb h).1 (fun i2 j a1 a2 => absurd a2 (by omega)) (fun _ _ _ _ _ _ => Nat.zero_le _)
theorem qz_queueSum_l (h : qz_R X y n p f e t b) : ∀ k : Nat, k ≤ p → ∃ i : Nat, f ≤ i ∧ i ≤ e ∧ qz_sum (fun i => if y (1216 + 4 * i + 0) = 2 then 1 else 0) k = nI (i - f) ∧ (∀ i2 j : Nat, f ≤ i2 → i2 < i → j < 150 → X 16 i2 = nI j → j < k) ∧ (∀ i2 j : Nat, i ≤ i2 → i2 < e → j < 150 → X 16 i2 = nI j → k ≤ j) := by
  have hp0 := (qzR_pn h).1
  intro k
  induction k with
  | zero => intro _; exact ⟨f, Nat.le_refl _, (qzR_qb h).1, by rw [Nat.sub_self]; rfl, fun i2 j a1 a2 => absurd a2 (by omega), fun _ _ _ _ _ _ => Nat.zero_le _⟩
  | succ k ih =>
    intro hk
    obtain ⟨i, h1, h2, hs, h3, h4⟩ := ih (by omega)
    have e1 : qz_sum (fun i => if y (1216 + 4 * i + 0) = 2 then 1 else 0) (k + 1) = qz_sum (fun i => if y (1216 + 4 * i + 0) = 2 then 1 else 0) k + (if y (1216 + 4 * k + 0) = 2 then 1 else 0) := rfl
    rw [e1, hs]
    by_cases hq : y (1216 + 4 * k + 0) = 2
    · obtain ⟨i1, u1, u2, u3⟩ := qzR_qc h k (by omega) hq
      have hi1 : i1 = i := by
        rcases Nat.lt_trichotomy i1 i with q | q | q
        · have := h3 i1 k u1 q (by omega) u3
          omega
        · exact q
        · obtain ⟨j, q1, q2, q3⟩ := qzR_qs h i h1 (by omega)
          have a1 := h4 i j (Nat.le_refl _) (by omega) (by omega) q2
          have a2 := qzR_qi h i i1 j k h1 q u2 (by omega) (by omega) q2 u3
          omega
      subst hi1
      refine ⟨i1 + 1, by omega, by omega, ?_, ?_, ?_⟩
      · rw [if_pos hq, nI_1, show i1 + 1 - f = i1 - f + 1 by omega]
      · intro i2 j a1 a2 a3 a4
        by_cases a5 : i2 = i1
        · rw [a5, u3, nI_eq (by omega) (by omega)] at a4
          omega
        · have := h3 i2 j a1 (by omega) a3 a4
          omega
      · intro i2 j a1 a2 a3 a4
        have := qzR_qi h i1 i2 k j h1 (by omega) a2 (by omega) a3 u3 a4
        omega
    · refine ⟨i, h1, h2, by rw [if_neg hq, Int32.add_zero], fun i2 j a1 a2 a3 a4 => by have := h3 i2 j a1 a2 a3 a4; omega, fun i2 j a1 a2 a3 a4 => ?_⟩
      have a5 := h4 i2 j a1 a2 a3 a4
      obtain ⟨j2, q1, q2, q3⟩ := qzR_qs h i2 (by omega) a2
      rw [a4, nI_eq (by omega) (by omega)] at q2
      have a6 : j ≠ k := fun q => hq (by rw [← q, q2]; exact q3)
      omega
theorem qz_queueSum (h : qz_R X y n p f e t b) : qz_sum (fun i => if y (1216 + 4 * i + 0) = 2 then 1 else 0) p = nI (e - f) := by
  have hp0 := (qzR_pn h).1
  obtain ⟨i, h1, h2, hs, h3, h4⟩ := qz_queueSum_l h p (Nat.le_refl _)
  have hie : i = e := by
    apply Nat.le_antisymm h2
    apply Nat.le_of_not_lt
    intro hlt
    obtain ⟨j, q1, q2, q3⟩ := qzR_qs h i h1 hlt
    have := h4 i j (Nat.le_refl _) hlt (by omega) q2
    omega
  rw [hs, hie]
/-- the records of a group, as a number -/
theorem qz_rec_nat (h : qz_R X y n p f e t b) (g : Int32) : ∃ r : Nat, r ≤ 8 * n ∧ qz_rec y n g = nI r := by
  have key : ∀ k : Nat, k ≤ n → ∃ r : Nat, r ≤ 8 * k ∧ qz_rec y k g = nI r := by
    intro k
    induction k with
    | zero => intro _; exact ⟨0, by omega, rfl⟩
    | succ k ih =>
      intro hk
      obtain ⟨r, h1, h2⟩ := ih (by omega)
      have e1 : qz_rec y (k + 1) g = qz_rec y k g + (if qz_mb y k g then y (16 + 8 * k + 1) else 0) := rfl
      rw [e1, h2]
      split
      · obtain ⟨q, q1, q2, q3⟩ := qzR_kr h k (by omega)
        exact ⟨r + q, by omega, by rw [q3, nI_add]⟩
      · exact ⟨r, by omega, Int32.add_zero _⟩
  exact key n (Nat.le_refl _)
theorem qz_sizeQ (h : qz_R X y n p f e t b) : f_X4_size N X = some (nI (e - f), X) := by
  unfold f_X4_size
  rw [qz_nm, qzR_qf h, qzR_qe h, pk_sub (qzR_qb h).1]
theorem qz_takeFirst (h : qz_R X y n p f e t b) (hfe : f < e) : f_X4_takeFirst N X = some (X 16 f, m_up X 15 (upd (X 15) 1 (nI (f + 1)))) := by
  have hb := qzR_qb h
  have hp0 := (qzR_pn h).1
  unfold f_X4_takeFirst
  rw [qzR_qf h, qzR_qe h, if_pos (nI_lt hfe (by omega)), qz_gd (qz_in (by omega) (by omega)), nI_clamp (by omega), qz_nm, qz_nm, qz_nm, nI_1]
theorem qz_ticksToWrite {v : Int32} : f_X3_ticksToWrite N v X = some (X 18 2 + v / 4, X) := by
  unfold f_X3_ticksToWrite
  rw [qz_valueOf (v := 2) (i := 2) rfl (by omega), qz_bi, qz_nm, qz_nm]
/-- the rows of the class's first log alone have changed -/
def qz_fr (X X2 : XT) : Prop := ∀ i : Nat, 21 ≤ i → X2 i = X i
theorem qz_fr_rf : qz_fr X X := fun _ _ => rfl
theorem qz_fr_tr {X1 X2 : XT} (h1 : qz_fr X X1) (h2 : qz_fr X1 X2) : qz_fr X X2 := fun i hi => (h2 i hi).trans (h1 i hi)
theorem qz_fr_up {i : Nat} {g : Nat → Int32} (h : i < 21) : qz_fr X (m_up X i g) := fun j hj => qz_un X g (by omega)
def qz_started (X X2 : XT) (y y2 : Nat → Int32) (p f f2 e : Nat) : Prop :=
  (X2 = X ∧ y2 = y ∧ f2 = f ∧ (y 9 ≠ -5 ∨ f = e)) ∨ (y 9 = -5 ∧ f < e ∧ f2 = f + 1 ∧ ∃ j0 : Nat, j0 < p ∧ X 16 f = nI j0 ∧ X2 0 10 = nI j0 ∧ X2 0 11 = X 18 2 + X 13 j0 / 4 ∧ (∀ s : Nat, s ≠ 10 → s ≠ 11 → X2 0 s = X 0 s) ∧ (∀ i : Nat, i < 21 → i ≠ 0 → i ≠ 5 → i ≠ 11 → i ≠ 15 → X2 i = X i) ∧ y2 9 = nI j0)
theorem qz_queuedAt0 (h7 : y 7 = nI p) (hp : p ≤ 150) (hN : 200 ≤ N) : f_X8_queuedAt N 0 (m_up Z 1 y) = some (qz_at (qz_P2 y) p 0 0, m_up Z 1 y) := by
  have q := qz_queuedAt (N := N) (Z := Z) (r := 0) h7 hp hN (by omega)
  rwa [nI_0] at q
set_option maxHeartbeats 4000000 in
theorem qz_startWriting (h : qz_R X y n p f e t b) (hN : 200 ≤ N) : ∃ (X2 : XT) (y2 : Nat → Int32) (f2 : Nat), f_X3_startWriting N X = some X2 ∧ f_X8_goOn N (m_up Z 1 y) = some (m_up Z 1 y2) ∧ qz_R X2 y2 n p f2 e t b ∧ qz_fr X X2 ∧ (y2 9 = -5 → f2 = e) ∧ qz_started X X2 y y2 p f f2 e := by
  have hp0 := (qzR_pn h).1
  have hn0 := qzR_nn h
  have hqb := qzR_qb h
  have hq0 := qz_queue h 0
  rw [Nat.add_zero] at hq0
  have hgo : f_X8_queuedAt N 0 (m_up Z 1 y) = some (if f < e then X 16 f else -5, m_up Z 1 y) := by rw [qz_queuedAt0 (qzR_py h) hp0 hN, hq0]
  by_cases h9 : y 9 = -5
  · by_cases hfe : f < e
    · rw [if_pos hfe] at hgo
      obtain ⟨j0, hj0, h16, hst⟩ := qzR_qs h f (Nat.le_refl _) hfe
      have hst4 : (4 : Int32) ≤ 2 → False := by decide
      -- the class
      have hrec : X 13 j0 = qz_rec y n (nI j0) := qzR_g13 h j0 hj0
      have hC : f_X3_startWriting N X = some (m_up (m_up (m_up (m_up (m_up X 15 (upd (X 15) 1 (nI (f + 1)))) 0 (upd (X 0) 10 (nI j0))) 0 (upd (upd (X 0) 10 (nI j0)) 11 (X 18 2 + X 13 j0 / 4))) 11 (upd (X 11) j0 3)) 5 (qz_mv X n (nI j0) 2 3)) := by
        unfold f_X3_startWriting
        rw [qzR_vx h, if_pos h9, qz_sizeQ h, qz_bi, if_neg (nI_ne0 (by omega) (by omega)), qz_takeFirst h hfe, qz_bi, qz_nm, h16]
        have e0 : m_up (m_up X 15 (upd (X 15) 1 (nI (f + 1)))) 0 (upd (m_up X 15 (upd (X 15) 1 (nI (f + 1))) 0) 10 (nI j0)) 0 10 = nI j0 := by rw [qz_up, qz_us]
        rw [e0, qz_recordsG (p := p) (by rw [qz_un _ _ (by decide), qz_un _ _ (by decide)]; exact qzR_px h) hj0 hp0, qz_bi, qz_ticksToWrite, qz_bi, qz_nm]
        simp only [qz_up, qz_un X _ (show (0 : Nat) ≠ 15 by decide), qz_un _ _ (show (18 : Nat) ≠ 0 by decide), qz_un X _ (show (18 : Nat) ≠ 15 by decide), qz_un _ _ (show (13 : Nat) ≠ 0 by decide), qz_un X _ (show (13 : Nat) ≠ 15 by decide)]
        rw [qz_uo (show (10 : Nat) ≠ 11 by decide), qz_us, qz_setStateG (p := p) (by simp only [qz_un _ _ (show (10 : Nat) ≠ 0 by decide), qz_un _ _ (show (10 : Nat) ≠ 15 by decide)]; exact qzR_px h) hj0 hp0, qz_bv]
        simp only [qz_un _ _ (show (11 : Nat) ≠ 0 by decide), qz_un _ _ (show (11 : Nat) ≠ 15 by decide), qz_un _ _ (show (0 : Nat) ≠ 11 by decide), qz_up]
        rw [qz_uo (show (10 : Nat) ≠ 11 by decide), qz_us, qz_move (n := n) (by simp only [qz_un _ _ (show (1 : Nat) ≠ 0 by decide), qz_un _ _ (show (1 : Nat) ≠ 15 by decide), qz_un _ _ (show (1 : Nat) ≠ 11 by decide)]; exact qzR_nx h) hn0 (by intro k hk; simp only [qz_un _ _ (show (9 : Nat) ≠ 0 by decide), qz_un _ _ (show (9 : Nat) ≠ 15 by decide), qz_un _ _ (show (9 : Nat) ≠ 11 by decide)]; exact qzR_b9 h k (by omega)) hN, qz_bv]
        rfl
      -- the model
      have hM : f_X8_goOn N (m_up Z 1 y) = some (m_up Z 1 (qz_turn (upd (upd (upd y 9 (nI j0)) (1216 + 4 * j0 + 0) 3) (1216 + 4 * j0 + 3) (y 4 + qz_rec y n (nI j0) / 4)) n (nI j0) 3)) := by
        have e6 : upd (upd y 9 (nI j0)) (1216 + 4 * j0 + 0) 3 6 = nI n := by rw [qz_uo (by omega), qz_uo (by omega)]; exact qzR_ny h
        have e4 : upd (upd y 9 (nI j0)) (1216 + 4 * j0 + 0) 3 4 = y 4 := by rw [qz_uo (by omega), qz_uo (by omega)]
        have er : qz_rec (upd (upd y 9 (nI j0)) (1216 + 4 * j0 + 0) 3) n (nI j0) = qz_rec y n (nI j0) := qz_sum_c n (fun k hk => by
          have hk1 : k < 150 := by omega
          simp only [qz_mb]
          rw [qz_uo (show 16 + 8 * k + 6 ≠ 1216 + 4 * j0 + 0 by omega), qz_uo (show 16 + 8 * k + 7 ≠ 1216 + 4 * j0 + 0 by omega), qz_uo (show 16 + 8 * k + 1 ≠ 1216 + 4 * j0 + 0 by omega), qz_uo (show 16 + 8 * k + 6 ≠ 9 by omega), qz_uo (show 16 + 8 * k + 7 ≠ 9 by omega), qz_uo (show 16 + 8 * k + 1 ≠ 9 by omega)])
        unfold f_X8_goOn
        rw [hgo, qz_bi, qz_rd (v := 9) (w := 9) rfl (by omega), if_pos h9, h16, if_neg (qz_n5 (by omega)), qz_wr (v := 9) (w := 9) rfl (by omega), qz_setG (v := 0) (w := 0) rfl (by omega) (by omega), qz_bv, qz_rd (v := 4) (w := 4) rfl (by omega), e4, qz_records e6 hn0 hN, qz_bi, er, qz_nm, qz_nm, qz_setG (v := 3) (w := 3) rfl (by omega) (by omega), qz_bv, qz_turnMembers (by rw [qz_uo (by omega)]; exact e6) hn0 hN, qz_bi]
      refine ⟨_, _, f + 1, hC, hM, ?_, ?_, ?_, ?_⟩
      · have hs2 : X 18 2 = y 4 := qzR_sx h 2 (by omega)
        have hcost : ∃ L : Nat, 1 ≤ L ∧ L ≤ 400 ∧ X 18 2 + X 13 j0 / 4 = nI L := by
          obtain ⟨a, a1, a2, a3⟩ := qzR_s2 h
          obtain ⟨r, r1, r2⟩ := qz_rec_nat h (nI j0)
          refine ⟨a + r / 4, by omega, by omega, ?_⟩
          rw [hs2, a3, hrec, r2, show (4 : Int32) = nI 4 from rfl, pk_div (by omega) (by omega) (by omega), nI_add]
        have hyo : ∀ a : Nat, a ≠ 9 → a ≠ 1216 + 4 * j0 + 0 → a ≠ 1216 + 4 * j0 + 3 → upd (upd (upd y 9 (nI j0)) (1216 + 4 * j0 + 0) 3) (1216 + 4 * j0 + 3) (y 4 + qz_rec y n (nI j0) / 4) a = y a := fun a a1 a2 a3 => by
          rw [qz_uo a3, qz_uo a2, qz_uo a1]
        have hmb : ∀ k : Nat, k < 150 → (qz_mb (upd (upd (upd y 9 (nI j0)) (1216 + 4 * j0 + 0) 3) (1216 + 4 * j0 + 3) (y 4 + qz_rec y n (nI j0) / 4)) k (nI j0) ↔ qz_mb y k (nI j0)) := fun k hk => by
          simp only [qz_mb]
          rw [hyo _ (by omega) (by omega) (by omega), hyo _ (by omega) (by omega) (by omega)]
        refine qzo_start (x := X) (y := y) (j0 := j0) (v := X 18 2 + X 13 j0 / 4) h ?_ ?_ ?_ ?_ ?_ ?_ h9 hfe h16 hj0 hst ?_ ?_ ?_ ?_ hcost ?_ ?_ ?_ ?_ ?_
        · intro i _ i0 i5 i11 i15
          rw [qz_un _ _ i5, qz_un _ _ i11, qz_un _ _ i0, qz_un _ _ i0, qz_un _ _ i15]
        · intro s s1 s2
          rw [qz_un _ _ (by decide), qz_un _ _ (by decide), qz_up, qz_uo s2, qz_uo s1]
        · intro s s1
          rw [qz_un _ _ (by decide), qz_un _ _ (by decide), qz_un _ _ (by decide), qz_un _ _ (by decide), qz_up, qz_uo s1]
        · intro a a1 a2
          rw [qz_turn_o (by omega), hyo a a2 (by omega) (by omega)]
        · intro k w k1 w1 w2
          rw [qz_turn_o (by omega), hyo _ (by omega) (by omega) (by omega)]
        · intro j w j1 w1 w2 w3
          rw [qz_turn_o (by omega), hyo _ (by omega) (by omega) (by omega)]
        · rw [qz_un _ _ (by decide), qz_un _ _ (by decide), qz_up, qz_uo (by decide), qz_us]
        · rw [qz_turn_o (by omega), qz_uo (by omega), qz_uo (by omega), qz_us]
        · rw [qz_un _ _ (by decide), qz_un _ _ (by decide), qz_up, qz_us]
        · rw [qz_turn_o (by omega), qz_us, hs2, hrec]
        · rw [qz_un _ _ (by decide), qz_un _ _ (by decide), qz_un _ _ (by decide), qz_un _ _ (by decide), qz_up, qz_us]
        · intro k hk
          rw [qz_up]
          unfold qz_mv
          have e8 := qzR_c8 h k hk
          have e9 := qzR_c9 h k hk
          have e5 := qzR_c5 h k hk
          by_cases q : qz_mb y k (nI j0) ∧ ¬ 4 ≤ y (16 + 8 * k + 3)
          · rw [if_pos q, if_pos ⟨hk, ⟨by rw [e8]; exact q.1.1, by rw [e9]; exact q.1.2⟩, by rw [e5, ← (qzR_ko h k hk q.2).2 j0 hj0 q.1.1]; exact hst⟩]
          · rw [if_neg q, if_neg (fun u => q ⟨⟨by rw [← e8]; exact u.2.1.1, by rw [← e9]; exact u.2.1.2⟩, by rw [← e5, u.2.2]; exact hst4⟩)]
        · intro k hk
          rw [qz_turn_3, hyo _ (by omega) (by omega) (by omega)]
          by_cases q : qz_mb y k (nI j0) ∧ ¬ 4 ≤ y (16 + 8 * k + 3)
          · rw [if_pos q, if_pos ⟨hk, (hmb k (by omega)).mpr q.1, q.2⟩]
          · rw [if_neg q, if_neg (fun u => q ⟨(hmb k (by omega)).mp u.2.1, u.2.2⟩)]
        · intro j
          rw [qz_un _ _ (by decide), qz_up]
          rfl
        · intro j hj
          rw [qz_turn_o (by omega), qz_uo (by omega)]
          by_cases q : j = j0
          · rw [if_pos q, q, qz_us]
          · rw [if_neg q, qz_uo (by omega), qz_uo (by omega)]
      · intro i hi
        rw [qz_un _ _ (by omega), qz_un _ _ (by omega), qz_un _ _ (by omega), qz_un _ _ (by omega), qz_un _ _ (by omega)]
      · intro q
        rw [qz_turn_o (by omega), qz_uo (by omega), qz_uo (by omega), qz_us] at q
        exact absurd q (qz_n5 (by omega))
      · refine Or.inr ⟨h9, hfe, rfl, j0, hj0, h16, ?_, ?_, ?_, ?_, ?_⟩
        · rw [qz_un _ _ (by decide), qz_un _ _ (by decide), qz_up, qz_uo (by decide), qz_us]
        · rw [qz_un _ _ (by decide), qz_un _ _ (by decide), qz_up, qz_us]
        · intro s s1 s2
          rw [qz_un _ _ (by decide), qz_un _ _ (by decide), qz_up, qz_uo s2, qz_uo s1]
        · intro i _ i0 i5 i11 i15
          rw [qz_un _ _ i5, qz_un _ _ i11, qz_un _ _ i0, qz_un _ _ i0, qz_un _ _ i15]
        · rw [qz_turn_o (by omega), qz_uo (by omega), qz_uo (by omega), qz_us]
    · have hfe2 : f = e := by omega
      rw [if_neg hfe] at hgo
      refine ⟨X, y, f, ?_, ?_, h, qz_fr_rf, fun _ => hfe2, Or.inl ⟨rfl, rfl, rfl, Or.inr hfe2⟩⟩
      · unfold f_X3_startWriting
        rw [qzR_vx h, if_pos h9, qz_sizeQ h, qz_bi, hfe2, Nat.sub_self, if_pos nI_0]
      · unfold f_X8_goOn
        rw [hgo, qz_bi, qz_rd (v := 9) (w := 9) rfl (by omega), if_pos h9, if_pos rfl]
  · refine ⟨X, y, f, ?_, ?_, h, qz_fr_rf, fun q => absurd q h9, Or.inl ⟨rfl, rfl, rfl, Or.inl h9⟩⟩
    · unfold f_X3_startWriting
      rw [qzR_vx h, if_neg h9]
    · unfold f_X8_goOn
      rw [hgo, qz_bi, qz_rd (v := 9) (w := 9) rfl (by omega), if_neg h9]
end QG
