-- the class's loops over its commits
section QC1
variable {N n : Nat} {X : XT} {g w : Int32}
theorem qz_memberAtC_l (h1 : X 1 8 = nI n) (hn : n ≤ 150) (h9 : ∀ k, k < n → X 9 k = 0 ∨ X 9 k = 1) {r0 : Nat} (hr : r0 < 2 ^ 31) : ∀ fuel k r : Nat, k ≤ n → r ≤ r0 → n - k < fuel → f_X0_memberAt_5 N fuel g (nI r0) (nI (r0 - r)) (nI k) X = some (qz_at (fun i => X 8 i = g ∧ X 9 i = 1) (n - k) k r, X) := by
  intro fuel
  induction fuel with
  | zero => intro k r _ _ h; omega
  | succ F ih =>
    intro k r hk hr1 hF
    rw [f_X0_memberAt_5, h1]
    by_cases e : k = n
    · subst e
      rw [if_pos (nI_le (Nat.le_refl _) (by omega)), Nat.sub_self]
      rfl
    · rw [if_neg (nI_ge (by omega) (by omega)), qz_gd (qz_in (by omega) (by omega))]
      simp only [nI_clamp (show k < 2 ^ 31 by omega)]
      rw [qz_nm]
      have hs : qz_at (fun i => X 8 i = g ∧ X 9 i = 1) (n - k) k r = if X 8 k = g ∧ X 9 k = 1 then (if r = 0 then nI k else qz_at (fun i => X 8 i = g ∧ X 9 i = 1) (n - (k + 1)) (k + 1) (r - 1)) else qz_at (fun i => X 8 i = g ∧ X 9 i = 1) (n - (k + 1)) (k + 1) r := by
        rw [show n - k = (n - (k + 1)) + 1 by omega]
        rfl
      rw [hs]
      rcases h9 k (by omega) with h0 | h0
      · rw [if_pos h0, if_neg (fun q => by rw [h0] at q; exact absurd q.2 (by decide)), qz_nm, nI_1]
        exact ih (k + 1) r (by omega) hr1 (by omega)
      · rw [if_neg (fun q => by rw [h0] at q; exact absurd q (by decide)), qz_gd (qz_in (by omega) (by omega)), qz_nm]
        by_cases hm : X 8 k = g
        · rw [if_pos hm, if_pos (show X 8 k = g ∧ X 9 k = 1 from ⟨hm, h0⟩)]
          by_cases hz : r = 0
          · subst hz
            rw [Nat.sub_zero, if_pos rfl, if_pos rfl]
          · rw [if_neg (show ¬ nI (r0 - r) = nI r0 from fun q => by rw [nI_eq (by omega) hr] at q; omega), if_neg hz, qz_nm, qz_nm, nI_1, nI_1, show r0 - r + 1 = r0 - (r - 1) by omega]
            exact ih (k + 1) (r - 1) (by omega) (by omega) (by omega)
        · rw [if_neg hm, if_neg (fun q => hm q.1), qz_nm, nI_1]
          exact ih (k + 1) r (by omega) hr1 (by omega)
theorem qz_memberAtC (h1 : X 1 8 = nI n) (hn : n ≤ 150) (h9 : ∀ k, k < n → X 9 k = 0 ∨ X 9 k = 1) {r : Nat} (hr : r < 2 ^ 31) (hN : 200 ≤ N) : f_X0_memberAt N g (nI r) X = some (qz_at (fun i => X 8 i = g ∧ X 9 i = 1) n 0 r, X) := by
  have h := qz_memberAtC_l (N := N) (g := g) h1 hn h9 hr N 0 r (by omega) (Nat.le_refl _) (by omega)
  rw [Nat.sub_self] at h
  exact h
/-- the row of states, when members of a group have moved -/
def qz_mv (X : XT) (n : Nat) (g u w : Int32) : Nat → Int32 := fun k => if k < n ∧ (X 8 k = g ∧ X 9 k = 1) ∧ X 5 k = u then w else X 5 k
theorem qz_mv_0 {u : Int32} : qz_mv X 0 g u w = X 5 := by
  funext k
  unfold qz_mv
  rw [if_neg (fun q => absurd q.1 (by omega))]
theorem qz_mv_s {u : Int32} (k : Nat) : qz_mv X (k + 1) g u w = if (X 8 k = g ∧ X 9 k = 1) ∧ X 5 k = u then upd (qz_mv X k g u w) k w else qz_mv X k g u w := by
  funext a
  by_cases ha : a = k
  · subst ha
    by_cases h : (X 8 a = g ∧ X 9 a = 1) ∧ X 5 a = u
    · rw [if_pos h, qz_us]
      unfold qz_mv
      rw [if_pos ⟨by omega, h⟩]
    · rw [if_neg h]
      unfold qz_mv
      rw [if_neg (fun q => h q.2), if_neg (fun q => h q.2)]
  · have e : qz_mv X (k + 1) g u w a = qz_mv X k g u w a := by
      unfold qz_mv
      by_cases h : a < k ∧ (X 8 a = g ∧ X 9 a = 1) ∧ X 5 a = u
      · rw [if_pos h, if_pos ⟨by omega, h.2⟩]
      · rw [if_neg h, if_neg (fun q => h ⟨by omega, q.2⟩)]
    rw [e]
    by_cases h : (X 8 k = g ∧ X 9 k = 1) ∧ X 5 k = u
    · rw [if_pos h, qz_uo ha]
    · rw [if_neg h]
theorem qz_move_l {u : Int32} (h1 : X 1 8 = nI n) (hn : n ≤ 150) (h9 : ∀ k, k < n → X 9 k = 0 ∨ X 9 k = 1) : ∀ fuel k : Nat, k ≤ n → n - k < fuel → f_X0_moveMembers_3 N fuel g u w (nI k) (m_up X 5 (qz_mv X k g u w)) = some (m_up X 5 (qz_mv X n g u w)) := by
  intro fuel
  induction fuel with
  | zero => intro k _ h; omega
  | succ F ih =>
    intro k hk hF
    rw [f_X0_moveMembers_3, qz_un X _ (show (1 : Nat) ≠ 5 by decide), qz_un X _ (show (8 : Nat) ≠ 5 by decide), qz_un X _ (show (9 : Nat) ≠ 5 by decide), qz_up, h1]
    by_cases e : k = n
    · subst e
      rw [if_pos (nI_le (Nat.le_refl _) (by omega))]
    · rw [if_neg (nI_ge (by omega) (by omega)), qz_gd (qz_in (by omega) (by omega))]
      simp only [nI_clamp (show k < 2 ^ 31 by omega)]
      rw [qz_nm]
      have hi := ih (k + 1) (by omega) (by omega)
      have hs := qz_mv_s (X := X) (g := g) (w := w) (u := u) k
      rcases h9 k (by omega) with h0 | h0
      · rw [if_pos h0, qz_nm, nI_1]
        rw [if_neg (fun q => by rw [h0] at q; exact absurd q.1.2 (by decide))] at hs
        rw [hs] at hi
        exact hi
      · rw [if_neg (fun q => by rw [h0] at q; exact absurd q (by decide)), qz_gd (qz_in (by omega) (by omega)), qz_nm]
        by_cases hm : X 8 k = g
        · have e5 : qz_mv X k g u w k = X 5 k := by
            unfold qz_mv
            rw [if_neg (fun q => absurd q.1 (by omega))]
          rw [if_pos hm, qz_gd (qz_in (by omega) (by omega)), qz_nm, e5]
          by_cases h5 : X 5 k = u
          · rw [if_pos h5, qz_gd (qz_in (by omega) (by omega)), qz_nm, qz_nm, nI_1, qz_uu]
            rw [if_pos ⟨⟨hm, h0⟩, h5⟩] at hs
            rw [hs] at hi
            exact hi
          · rw [if_neg h5, qz_nm, nI_1]
            rw [if_neg (fun q => h5 q.2)] at hs
            rw [hs] at hi
            exact hi
        · rw [if_neg hm, qz_nm, nI_1]
          rw [if_neg (fun q => hm q.1.1)] at hs
          rw [hs] at hi
          exact hi
theorem qz_move {u : Int32} (h1 : X 1 8 = nI n) (hn : n ≤ 150) (h9 : ∀ k, k < n → X 9 k = 0 ∨ X 9 k = 1) (hN : 200 ≤ N) : f_X0_moveMembers N g u w X = some (m_up X 5 (qz_mv X n g u w)) := by
  have h := qz_move_l (N := N) (g := g) (w := w) (u := u) h1 hn h9 N 0 (by omega) (by omega)
  rw [qz_mv_0, qz_ue] at h
  exact h
theorem qz_busyC_l (h20 : ∀ c, c < 12 → X 20 c = X 20 c) : ∀ fuel c : Nat, c ≤ 12 → 12 - c < fuel → f_X3_busyClients_4 N fuel (qz_sum (fun i => if X 20 i = -5 then 0 else 1) c) (nI c) X = some (qz_sum (fun i => if X 20 i = -5 then 0 else 1) 12, X) := by
  intro fuel
  induction fuel with
  | zero => intro c _ h; omega
  | succ F ih =>
    intro c hc hF
    rw [f_X3_busyClients_4, show (12 : Int32) = nI 12 from rfl]
    by_cases e : c = 12
    · subst e
      rw [if_pos (nI_le (Nat.le_refl _) (by omega))]
    · rw [if_neg (nI_ge (by omega) (by omega)), qz_gd (qz_in (by omega) (by omega))]
      simp only [nI_clamp (show c < 2 ^ 31 by omega)]
      rw [qz_nm]
      have hi := ih (c + 1) (by omega) (by omega)
      have hs : qz_sum (fun i => if X 20 i = -5 then 0 else 1) (c + 1) = qz_sum (fun i => if X 20 i = -5 then 0 else 1) c + (if X 20 c = -5 then 0 else 1) := rfl
      by_cases h : X 20 c = -5
      · rw [if_pos h] at hs ⊢
        rw [hs, Int32.add_zero] at hi
        rw [qz_nm, nI_1]
        exact hi
      · rw [if_neg h] at hs ⊢
        rw [hs] at hi
        rw [qz_nm, qz_nm, nI_1]
        exact hi
theorem qz_busyC (hN : 200 ≤ N) : f_X3_busyClients N X = some (qz_sum (fun i => if X 20 i = -5 then 0 else 1) 12, X) := qz_busyC_l (fun _ _ => rfl) N 0 (by omega) (by omega)
-- the small ones
theorem qz_has {k : Nat} (h1 : X 1 8 = nI n) (hk : k < n) (hn : n ≤ 150) : f_X0_has N (nI k) X = some (1, X) := by
  unfold f_X0_has
  rw [if_neg (nI_pos (by omega)), h1, if_neg (nI_ge hk (by omega))]
theorem qz_hasG {k p : Nat} (h1 : X 10 4 = nI p) (hk : k < p) (hp : p ≤ 150) : f_X1_has N (nI k) X = some (1, X) := by
  unfold f_X1_has
  rw [if_neg (nI_pos (by omega)), h1, if_neg (nI_ge hk (by omega))]
theorem qz_has5 : f_X0_has N (-5) X = some (0, X) := by
  unfold f_X0_has
  rw [if_pos (by decide)]
theorem qz_hasG5 : f_X1_has N (-5) X = some (0, X) := by
  unfold f_X1_has
  rw [if_pos (by decide)]
section QC2
variable {k : Nat} {v : Int32}
theorem qz_stateOf (h1 : X 1 8 = nI n) (hk : k < n) (hn : n ≤ 150) : f_X0_stateOf N (nI k) X = some (X 5 k, X) := by
  unfold f_X0_stateOf
  rw [qz_has h1 hk hn, qz_bi, if_neg (by decide), qz_gd (qz_in (by omega) (by omega)), qz_nm, nI_clamp (by omega)]
theorem qz_stateOf5 : f_X0_stateOf N (-5) X = some (-5, X) := by
  unfold f_X0_stateOf
  rw [qz_has5, qz_bi, if_pos rfl]
theorem qz_recordsOfC (h1 : X 1 8 = nI n) (hk : k < n) (hn : n ≤ 150) : f_X0_recordsOf N (nI k) X = some (X 3 k, X) := by
  unfold f_X0_recordsOf
  rw [qz_has h1 hk hn, qz_bi, if_neg (by decide), qz_gd (qz_in (by omega) (by omega)), qz_nm, nI_clamp (by omega)]
theorem qz_clientOf (h1 : X 1 8 = nI n) (hk : k < n) (hn : n ≤ 150) : f_X0_clientOf N (nI k) X = some (X 2 k, X) := by
  unfold f_X0_clientOf
  rw [qz_has h1 hk hn, qz_bi, if_neg (by decide), qz_gd (qz_in (by omega) (by omega)), qz_nm, nI_clamp (by omega)]
theorem qz_groupOf (h1 : X 1 8 = nI n) (hk : k < n) (hn : n ≤ 150) : f_X0_groupOf N (nI k) X = some (X 8 k, X) := by
  unfold f_X0_groupOf
  rw [qz_has h1 hk hn, qz_bi, if_neg (by decide), qz_gd (qz_in (by omega) (by omega)), qz_nm, nI_clamp (by omega)]
theorem qz_submitTimeOf (h1 : X 1 8 = nI n) (hk : k < n) (hn : n ≤ 150) : f_X0_submitTimeOf N (nI k) X = some (X 6 k, X) := by
  unfold f_X0_submitTimeOf
  rw [qz_has h1 hk hn, qz_bi, if_neg (by decide), qz_gd (qz_in (by omega) (by omega)), qz_nm, nI_clamp (by omega)]
theorem qz_setState (h1 : X 1 8 = nI n) (hk : k < n) (hn : n ≤ 150) : f_X0_setState N (nI k) v X = some (m_up X 5 (upd (X 5) k v)) := by
  unfold f_X0_setState
  rw [qz_has h1 hk hn, qz_bi, if_neg (by decide), qz_gd (qz_in (by omega) (by omega)), qz_nm, nI_clamp (by omega)]
theorem qz_leaveGroup (h1 : X 1 8 = nI n) (hk : k < n) (hn : n ≤ 150) : f_X0_leaveGroup N (nI k) X = some (m_up X 9 (upd (X 9) k 0)) := by
  unfold f_X0_leaveGroup
  rw [qz_has h1 hk hn, qz_bi, if_neg (by decide), qz_gd (qz_in (by omega) (by omega)), qz_nm, nI_clamp (by omega)]
  rfl
theorem qz_answer (h1 : X 1 8 = nI n) (hk : k < n) (hn : n ≤ 150) : f_X0_answer N (nI k) v X = some (m_up (m_up X 5 (upd (X 5) k 4)) 7 (upd (X 7) k v)) := by
  unfold f_X0_answer
  rw [qz_has h1 hk hn, qz_bi, if_neg (by decide), qz_gd (qz_in (by omega) (by omega)), qz_nm]
  simp only [nI_clamp (show k < 2 ^ 31 by omega)]
  rw [qz_gd (qz_in (by omega) (by omega)), qz_nm, qz_un _ _ (show (7 : Nat) ≠ 5 by decide)]
theorem qz_recordsG {p : Nat} (h1 : X 10 4 = nI p) (hk : k < p) (hp : p ≤ 150) : f_X1_recordsOf N (nI k) X = some (X 13 k, X) := by
  unfold f_X1_recordsOf
  rw [qz_hasG h1 hk hp, qz_bi, if_neg (by decide), qz_gd (qz_in (by omega) (by omega)), qz_nm, nI_clamp (by omega)]
theorem qz_membersG {p : Nat} (h1 : X 10 4 = nI p) (hk : k < p) (hp : p ≤ 150) : f_X1_membersOf N (nI k) X = some (X 12 k, X) := by
  unfold f_X1_membersOf
  rw [qz_hasG h1 hk hp, qz_bi, if_neg (by decide), qz_gd (qz_in (by omega) (by omega)), qz_nm, nI_clamp (by omega)]
theorem qz_stateG {p : Nat} (h1 : X 10 4 = nI p) (hk : k < p) (hp : p ≤ 150) : f_X1_stateOf N (nI k) X = some (X 11 k, X) := by
  unfold f_X1_stateOf
  rw [qz_hasG h1 hk hp, qz_bi, if_neg (by decide), qz_gd (qz_in (by omega) (by omega)), qz_nm, nI_clamp (by omega)]
theorem qz_reasonG {p : Nat} (h1 : X 10 4 = nI p) (hk : k < p) (hp : p ≤ 150) : f_X1_reasonOf N (nI k) X = some (X 14 k, X) := by
  unfold f_X1_reasonOf
  rw [qz_hasG h1 hk hp, qz_bi, if_neg (by decide), qz_gd (qz_in (by omega) (by omega)), qz_nm, nI_clamp (by omega)]
theorem qz_setStateG {p : Nat} (h1 : X 10 4 = nI p) (hk : k < p) (hp : p ≤ 150) : f_X1_setState N (nI k) v X = some (m_up X 11 (upd (X 11) k v)) := by
  unfold f_X1_setState
  rw [qz_hasG h1 hk hp, qz_bi, if_neg (by decide), qz_gd (qz_in (by omega) (by omega)), qz_nm, nI_clamp (by omega)]
theorem qz_setStateG5 : f_X1_setState N (-5) v X = some X := by
  unfold f_X1_setState
  rw [qz_hasG5, qz_bi, if_pos rfl]
theorem qz_closeG {p : Nat} (h1 : X 10 4 = nI p) (hk : k < p) (hp : p ≤ 150) : f_X1_close N (nI k) v X = some (m_up (m_up X 11 (upd (X 11) k 2)) 14 (upd (X 14) k v)) := by
  unfold f_X1_close
  rw [qz_hasG h1 hk hp, qz_bi, if_neg (by decide), qz_gd (qz_in (by omega) (by omega)), qz_nm]
  simp only [nI_clamp (show k < 2 ^ 31 by omega)]
  rw [qz_gd (qz_in (by omega) (by omega)), qz_nm, qz_un _ _ (show (14 : Nat) ≠ 11 by decide)]
theorem qz_join {p : Nat} (h1 : X 10 4 = nI p) (hk : k < p) (hp : p ≤ 150) : f_X1_join N (nI k) v X = some (m_up (m_up X 12 (upd (X 12) k (X 12 k + 1))) 13 (upd (X 13) k (X 13 k + v))) := by
  unfold f_X1_join
  rw [qz_hasG h1 hk hp, qz_bi, if_neg (by decide), qz_gd (qz_in (by omega) (by omega)), qz_nm, qz_nm]
  simp only [nI_clamp (show k < 2 ^ 31 by omega)]
  rw [qz_gd (qz_in (by omega) (by omega)), qz_nm, qz_gd (qz_in (by omega) (by omega)), qz_nm, qz_nm, qz_gd (qz_in (by omega) (by omega)), qz_nm, qz_un _ _ (show (13 : Nat) ≠ 12 by decide)]
theorem qz_leaveG {p : Nat} (h1 : X 10 4 = nI p) (hk : k < p) (hp : p ≤ 150) : f_X1_leave N (nI k) v X = some (m_up (m_up X 12 (upd (X 12) k (X 12 k - 1))) 13 (upd (X 13) k (X 13 k - v))) := by
  unfold f_X1_leave
  rw [qz_hasG h1 hk hp, qz_bi, if_neg (by decide), qz_gd (qz_in (by omega) (by omega)), qz_nm, qz_nm]
  simp only [nI_clamp (show k < 2 ^ 31 by omega)]
  rw [qz_gd (qz_in (by omega) (by omega)), qz_nm, qz_gd (qz_in (by omega) (by omega)), qz_nm, qz_nm, qz_gd (qz_in (by omega) (by omega)), qz_nm, qz_un _ _ (show (13 : Nat) ≠ 12 by decide)]
theorem qz_valueOf {i : Nat} (hv : v = nI i) (hi : i < 4) : f_X6_valueOf N v X = some (X 18 i, X) := by
  subst hv
  unfold f_X6_valueOf
  rw [if_neg (nI_pos (by omega)), show (4 : Int32) = nI 4 from rfl, if_neg (nI_ge hi (by omega)), qz_gd (qz_in hi (by omega)), qz_nm, nI_clamp (by omega)]
end QC2
end QC1
