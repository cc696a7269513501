-- ifSubmitted
section QIF
variable {X Y Z : XT} {N n p f e t b T : Nat} {y : Nat → Int32}
theorem qz_free_l (h : qz_R X y n p f e t b) (hN : 200 ≤ N) : ∀ fuel c : Nat, c ≤ 12 → 12 - c < fuel → (f_X8_lowestFree_2 N fuel (nI c) (m_up Z 1 y) = some (-5, m_up Z 1 y) ∧ ∀ i : Nat, c ≤ i → i < 12 → X 20 i ≠ -5) ∨ (∃ c0 : Nat, c0 < 12 ∧ X 20 c0 = -5 ∧ f_X8_lowestFree_2 N fuel (nI c) (m_up Z 1 y) = some (nI c0, m_up Z 1 y)) := by
  intro fuel
  induction fuel with
  | zero => intro c _ q; omega
  | succ F ih =>
    intro c hc hF
    rw [f_X8_lowestFree_2, show (12 : Int32) = nI 12 from rfl]
    by_cases e1 : c = 12
    · subst e1
      rw [if_pos (nI_le (Nat.le_refl _) (by omega))]
      exact Or.inl ⟨rfl, fun i a1 a2 => absurd a2 (by omega)⟩
    · rw [if_neg (nI_ge (by omega) (by omega)), qz_openM h hN (show c < 12 by omega), qz_bi]
      by_cases q : X 20 c = -5
      · rw [if_pos q]
        exact Or.inr ⟨c, by omega, q, rfl⟩
      · rw [if_neg q, qz_nm, nI_1]
        rcases ih (c + 1) (by omega) (by omega) with ⟨a1, a2⟩ | a1
        · refine Or.inl ⟨a1, fun i b1 b2 => ?_⟩
          by_cases e2 : i = c
          · rw [e2]; exact q
          · exact a2 i (by omega) b2
        · exact Or.inr a1
theorem qz_free (h : qz_R X y n p f e t b) (hN : 200 ≤ N) : (f_X8_lowestFree N (m_up Z 1 y) = some (-5, m_up Z 1 y) ∧ f_X3_busyClients N X = some (nI 12, X)) ∨ (∃ c0 : Nat, c0 < 12 ∧ X 20 c0 = -5 ∧ f_X8_lowestFree N (m_up Z 1 y) = some (nI c0, m_up Z 1 y) ∧ ∃ m : Nat, m < 12 ∧ f_X3_busyClients N X = some (nI m, X)) := by
  have hcnt : ∀ c : Nat, ∃ m : Nat, m ≤ c ∧ qz_sum (fun i => if X 20 i = -5 then 0 else 1) c = nI m ∧ ((∀ i : Nat, i < c → X 20 i ≠ -5) → m = c) ∧ ((∃ i : Nat, i < c ∧ X 20 i = -5) → m < c) := by
    intro c
    induction c with
    | zero => exact ⟨0, Nat.le_refl _, rfl, fun _ => rfl, fun ⟨i, q, _⟩ => absurd q (by omega)⟩
    | succ c ih =>
      obtain ⟨m, m1, m2, m3, m4⟩ := ih
      have e1 : qz_sum (fun i => if X 20 i = -5 then 0 else 1) (c + 1) = qz_sum (fun i => if X 20 i = -5 then 0 else 1) c + (if X 20 c = -5 then 0 else 1) := rfl
      rw [e1, m2]
      by_cases q : X 20 c = -5
      · exact ⟨m, by omega, by rw [if_pos q, Int32.add_zero], fun u => absurd q (u c (by omega)), fun _ => by omega⟩
      · refine ⟨m + 1, by omega, by rw [if_neg q, nI_1], fun u => by rw [m3 (fun i hi => u i (by omega))], fun ⟨i, i1, i2⟩ => ?_⟩
        have : i ≠ c := fun e2 => q (e2 ▸ i2)
        have := m4 ⟨i, by omega, i2⟩
        omega
  obtain ⟨m, m1, m2, m3, m4⟩ := hcnt 12
  have hb : f_X3_busyClients N X = some (nI m, X) := by rw [qz_busyC hN, m2]
  rcases qz_free_l (Z := Z) h hN N 0 (by omega) (by omega) with ⟨a1, a2⟩ | ⟨c0, a1, a2, a3⟩
  · refine Or.inl ⟨a1, ?_⟩
    rw [hb, m3 (fun i hi => a2 i (Nat.zero_le _) hi)]
  · exact Or.inr ⟨c0, a1, a2, a3, m, m4 ⟨c0, a1, a2⟩, hb⟩
theorem qz_disk_l (h : qz_R X y n p f e t 0) : ∀ fuel m : Nat, f + m ≤ e → e - (f + m) < fuel → f_X3_ticksToFreeDisk_7 N fuel (nI (qz_L X + qz_qs X f m)) (nI m) X = some (nI (qz_L X + qz_qs X f (e - f)), X) := by
  have hp0 := (qzR_pn h).1
  have hqb := qzR_qb h
  intro fuel
  induction fuel with
  | zero => intro m _ q; omega
  | succ F ih =>
    intro m hm hF
    rw [f_X3_ticksToFreeDisk_7, qz_sizeQ h, qz_bi]
    by_cases e1 : f + m = e
    · rw [if_pos (nI_le (by omega) (by omega)), show e - f = m by omega]
    · rw [if_neg (nI_ge (by omega) (by omega)), qz_atQ h (by omega), qz_bi]
      obtain ⟨j2, j3, j4, _⟩ := qzR_qs h (f + m) (by omega) (by omega)
      have hc := qz_cst_n h j3
      have hstep : qz_L X + qz_qs X f m + qz_cst X (nI j2) = qz_L X + qz_qs X f (m + 1) := by
        show _ = qz_L X + (qz_qs X f m + qz_cst X (X 16 (f + m)))
        rw [j4]
        omega
      rw [j4, qz_recordsG (qzR_px h) j3 hp0, qz_bi, qz_ticksToWrite, qz_bi, hc.2.2, nI_add, hstep, qz_nm, qz_nm, nI_1]
      exact ih (m + 1) (by omega) (by omega)
theorem qz_disk (h : qz_R X y n p f e t 0) (hN : 200 ≤ N) : f_X3_ticksToFreeDisk N X = some (nI (qz_L X + qz_qs X f (e - f)), X) := by
  have hqb := qzR_qb h
  have hp0 := (qzR_pn h).1
  unfold f_X3_ticksToFreeDisk
  rw [qz_endW h, qz_bi]
  exact qz_disk_l h N 0 (by omega) (by omega)
end QIF
