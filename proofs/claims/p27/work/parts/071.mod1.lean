-- the model's loops on its row of numbers
abbrev qz_mb (y : Nat → Int32) (k : Nat) (g : Int32) : Prop := y (16 + 8 * k + 6) = g ∧ y (16 + 8 * k + 7) = 1
def qz_mem (y : Nat → Int32) (n : Nat) (g : Int32) : Int32 := qz_sum (fun k => if qz_mb y k g then 1 else 0) n
def qz_rec (y : Nat → Int32) (n : Nat) (g : Int32) : Int32 := qz_sum (fun k => if qz_mb y k g then y (16 + 8 * k + 1) else 0) n
section QM1
variable {N n p : Nat} {Z : XT} {y : Nat → Int32} {g w : Int32}
theorem qz_isIn {k : Nat} (hk : k < 150) : f_X8_isIn N (nI k) g (m_up Z 1 y) = some (if qz_mb y k g then 1 else 0, m_up Z 1 y) := by
  unfold f_X8_isIn
  rw [qz_of (v := 6) (w := 6) rfl hk (by omega), qz_bi]
  by_cases h1 : y (16 + 8 * k + 6) = g
  · rw [if_pos h1, qz_of (v := 7) (w := 7) rfl hk (by omega), qz_bi]
    by_cases h2 : y (16 + 8 * k + 7) = 1
    · rw [if_pos h2, if_pos ⟨h1, h2⟩]
    · rw [if_neg h2, if_neg (fun h => h2 h.2)]
  · rw [if_neg h1, if_neg (fun h => h1 h.1)]
theorem qz_members_l (h6 : y 6 = nI n) (hn : n ≤ 150) : ∀ fuel k : Nat, k ≤ n → n - k < fuel → f_X8_members_4 N fuel g (qz_mem y k g) (nI k) (m_up Z 1 y) = some (qz_mem y n g, m_up Z 1 y) := by
  intro fuel
  induction fuel with
  | zero => intro k _ h; omega
  | succ F ih =>
    intro k hk hF
    rw [f_X8_members_4, qz_rd (v := 6) (w := 6) rfl (by omega), h6]
    by_cases e : k = n
    · subst e
      rw [if_pos (nI_le (Nat.le_refl _) (by omega))]
    · rw [if_neg (nI_ge (by omega) (by omega)), qz_isIn (by omega), qz_bi]
      have hi := ih (k + 1) (by omega) (by omega)
      have hs : qz_mem y (k + 1) g = qz_mem y k g + (if qz_mb y k g then 1 else 0) := rfl
      by_cases hm : qz_mb y k g
      · rw [if_pos hm] at hs ⊢
        rw [if_neg (by decide), qz_nm, qz_nm, nI_1, ← hs]
        exact hi
      · rw [if_neg hm] at hs ⊢
        rw [if_pos rfl, qz_nm, qz_nm, nI_1, ← hs]
        exact hi
theorem qz_members (h6 : y 6 = nI n) (hn : n ≤ 150) (hN : 200 ≤ N) : f_X8_members N g (m_up Z 1 y) = some (qz_mem y n g, m_up Z 1 y) := qz_members_l h6 hn N 0 (by omega) (by omega)
theorem qz_records_l (h6 : y 6 = nI n) (hn : n ≤ 150) : ∀ fuel k : Nat, k ≤ n → n - k < fuel → f_X8_recordsOf_4 N fuel g (qz_rec y k g) (nI k) (m_up Z 1 y) = some (qz_rec y n g, m_up Z 1 y) := by
  intro fuel
  induction fuel with
  | zero => intro k _ h; omega
  | succ F ih =>
    intro k hk hF
    rw [f_X8_recordsOf_4, qz_rd (v := 6) (w := 6) rfl (by omega), h6]
    by_cases e : k = n
    · subst e
      rw [if_pos (nI_le (Nat.le_refl _) (by omega))]
    · rw [if_neg (nI_ge (by omega) (by omega)), qz_isIn (by omega), qz_bi]
      have hi := ih (k + 1) (by omega) (by omega)
      have hs : qz_rec y (k + 1) g = qz_rec y k g + (if qz_mb y k g then y (16 + 8 * k + 1) else 0) := rfl
      by_cases hm : qz_mb y k g
      · rw [if_pos hm] at hs ⊢
        rw [if_neg (by decide), qz_of (v := 1) (w := 1) rfl (by omega) (by omega), qz_bi, qz_nm, qz_nm, nI_1, ← hs]
        exact hi
      · rw [if_neg hm] at hs ⊢
        rw [if_pos rfl, qz_nm, qz_nm, nI_1, ← hs]
        exact hi
theorem qz_records (h6 : y 6 = nI n) (hn : n ≤ 150) (hN : 200 ≤ N) : f_X8_recordsOf N g (m_up Z 1 y) = some (qz_rec y n g, m_up Z 1 y) := qz_records_l h6 hn N 0 (by omega) (by omega)
theorem qz_memberAt_l (h6 : y 6 = nI n) (hn : n ≤ 150) : ∀ fuel k r : Nat, k ≤ n → r < 2 ^ 31 → n - k < fuel → f_X8_memberAt_5 N fuel g (nI r) (nI k) (m_up Z 1 y) = some (qz_at (fun i => qz_mb y i g) (n - k) k r, m_up Z 1 y) := by
  intro fuel
  induction fuel with
  | zero => intro k r _ _ h; omega
  | succ F ih =>
    intro k r hk hr hF
    rw [f_X8_memberAt_5, qz_rd (v := 6) (w := 6) rfl (by omega), h6]
    by_cases e : k = n
    · subst e
      rw [if_pos (nI_le (Nat.le_refl _) (by omega)), Nat.sub_self]
      rfl
    · rw [if_neg (nI_ge (by omega) (by omega)), qz_isIn (by omega), qz_bi]
      have hs : qz_at (fun i => qz_mb y i g) (n - k) k r = if qz_mb y k g then (if r = 0 then nI k else qz_at (fun i => qz_mb y i g) (n - (k + 1)) (k + 1) (r - 1)) else qz_at (fun i => qz_mb y i g) (n - (k + 1)) (k + 1) r := by
        rw [show n - k = (n - (k + 1)) + 1 by omega]
        rfl
      rw [hs]
      by_cases hm : qz_mb y k g
      · rw [if_pos hm, if_pos hm, if_neg (by decide)]
        by_cases h0 : r = 0
        · subst h0
          rw [if_pos nI_0, if_pos rfl]
        · rw [if_neg (nI_ne0 (by omega) hr), if_neg h0, qz_nm, qz_nm, nI_1]
          have e2 : nI r + (-1) = nI (r - 1) := by
            have := pk_m1 (r - 1)
            rwa [show r - 1 + 1 = r by omega] at this
          rw [e2]
          exact ih (k + 1) (r - 1) (by omega) (by omega) (by omega)
      · rw [if_neg hm, if_neg hm, if_pos rfl, qz_nm, nI_1]
        exact ih (k + 1) r (by omega) hr (by omega)
theorem qz_memberAt {r : Nat} (h6 : y 6 = nI n) (hn : n ≤ 150) (hN : 200 ≤ N) (hr : r < 2 ^ 31) : f_X8_memberAt N g (nI r) (m_up Z 1 y) = some (qz_at (fun i => qz_mb y i g) n 0 r, m_up Z 1 y) := qz_memberAt_l h6 hn N 0 r (by omega) hr (by omega)
theorem qz_openOf_l (h6 : y 6 = nI n) (hn : n ≤ 150) : ∀ fuel k : Nat, k ≤ n → n - k < fuel → f_X8_openOf_2 N fuel g (nI k) (m_up Z 1 y) = some (qz_at (fun i => y (16 + 8 * i + 0) = g ∧ ¬ 4 ≤ y (16 + 8 * i + 3)) (n - k) k 0, m_up Z 1 y) := by
  intro fuel
  induction fuel with
  | zero => intro k _ h; omega
  | succ F ih =>
    intro k hk hF
    rw [f_X8_openOf_2, qz_rd (v := 6) (w := 6) rfl (by omega), h6]
    by_cases e : k = n
    · subst e
      rw [if_pos (nI_le (Nat.le_refl _) (by omega)), Nat.sub_self]
      rfl
    · rw [if_neg (nI_ge (by omega) (by omega)), qz_of (v := 0) (w := 0) rfl (by omega) (by omega), qz_bi]
      have hs : qz_at (fun i => y (16 + 8 * i + 0) = g ∧ ¬ 4 ≤ y (16 + 8 * i + 3)) (n - k) k 0 = if y (16 + 8 * k + 0) = g ∧ ¬ 4 ≤ y (16 + 8 * k + 3) then nI k else qz_at (fun i => y (16 + 8 * i + 0) = g ∧ ¬ 4 ≤ y (16 + 8 * i + 3)) (n - (k + 1)) (k + 1) 0 := by
        rw [show n - k = (n - (k + 1)) + 1 by omega]
        rfl
      rw [hs]
      have hi := ih (k + 1) (by omega) (by omega)
      by_cases h1 : y (16 + 8 * k + 0) = g
      · rw [if_pos h1, qz_of (v := 3) (w := 3) rfl (by omega) (by omega), qz_bi]
        by_cases h2 : 4 ≤ y (16 + 8 * k + 3)
        · rw [if_pos h2, qz_nm, nI_1, if_neg (fun h => h.2 h2)]
          exact hi
        · rw [if_neg h2, if_pos ⟨h1, h2⟩]
      · rw [if_neg h1, qz_nm, nI_1, if_neg (fun h => h1 h.1)]
        exact hi
theorem qz_openOf (h6 : y 6 = nI n) (hn : n ≤ 150) (hN : 200 ≤ N) : f_X8_openOf N g (m_up Z 1 y) = some (qz_at (fun i => y (16 + 8 * i + 0) = g ∧ ¬ 4 ≤ y (16 + 8 * i + 3)) n 0 0, m_up Z 1 y) := qz_openOf_l h6 hn N 0 (by omega) (by omega)
theorem qz_queuedAt_l (h7 : y 7 = nI p) (hp : p ≤ 150) : ∀ fuel k r : Nat, k ≤ p → r < 2 ^ 31 → p - k < fuel → f_X8_queuedAt_4 N fuel (nI r) (nI k) (m_up Z 1 y) = some (qz_at (fun i => y (1216 + 4 * i + 0) = 2) (p - k) k r, m_up Z 1 y) := by
  intro fuel
  induction fuel with
  | zero => intro k r _ _ h; omega
  | succ F ih =>
    intro k r hk hr hF
    rw [f_X8_queuedAt_4, qz_rd (v := 7) (w := 7) rfl (by omega), h7]
    by_cases e : k = p
    · subst e
      rw [if_pos (nI_le (Nat.le_refl _) (by omega)), Nat.sub_self]
      rfl
    · rw [if_neg (nI_ge (by omega) (by omega)), qz_ofG (v := 0) (w := 0) rfl (by omega) (by omega), qz_bi]
      have hs : qz_at (fun i => y (1216 + 4 * i + 0) = 2) (p - k) k r = if y (1216 + 4 * k + 0) = 2 then (if r = 0 then nI k else qz_at (fun i => y (1216 + 4 * i + 0) = 2) (p - (k + 1)) (k + 1) (r - 1)) else qz_at (fun i => y (1216 + 4 * i + 0) = 2) (p - (k + 1)) (k + 1) r := by
        rw [show p - k = (p - (k + 1)) + 1 by omega]
        rfl
      rw [hs]
      by_cases hm : y (1216 + 4 * k + 0) = 2
      · rw [if_pos hm, if_pos hm]
        by_cases h0 : r = 0
        · subst h0
          rw [if_pos nI_0, if_pos rfl]
        · rw [if_neg (nI_ne0 (by omega) hr), if_neg h0, qz_nm, qz_nm, nI_1]
          have e2 : nI r + (-1) = nI (r - 1) := by
            have := pk_m1 (r - 1)
            rwa [show r - 1 + 1 = r by omega] at this
          rw [e2]
          exact ih (k + 1) (r - 1) (by omega) (by omega) (by omega)
      · rw [if_neg hm, if_neg hm, qz_nm, nI_1]
        exact ih (k + 1) r (by omega) hr (by omega)
theorem qz_queuedAt {r : Nat} (h7 : y 7 = nI p) (hp : p ≤ 150) (hN : 200 ≤ N) (hr : r < 2 ^ 31) : f_X8_queuedAt N (nI r) (m_up Z 1 y) = some (qz_at (fun i => y (1216 + 4 * i + 0) = 2) p 0 r, m_up Z 1 y) := qz_queuedAt_l h7 hp N 0 r (by omega) hr (by omega)
theorem qz_queuedMany_l (h7 : y 7 = nI p) (hp : p ≤ 150) : ∀ fuel k : Nat, k ≤ p → p - k < fuel → f_X8_queuedMany_4 N fuel (qz_sum (fun i => if y (1216 + 4 * i + 0) = 2 then 1 else 0) k) (nI k) (m_up Z 1 y) = some (qz_sum (fun i => if y (1216 + 4 * i + 0) = 2 then 1 else 0) p, m_up Z 1 y) := by
  intro fuel
  induction fuel with
  | zero => intro k _ h; omega
  | succ F ih =>
    intro k hk hF
    rw [f_X8_queuedMany_4, qz_rd (v := 7) (w := 7) rfl (by omega), h7]
    by_cases e : k = p
    · subst e
      rw [if_pos (nI_le (Nat.le_refl _) (by omega))]
    · rw [if_neg (nI_ge (by omega) (by omega)), qz_ofG (v := 0) (w := 0) rfl (by omega) (by omega), qz_bi]
      have hi := ih (k + 1) (by omega) (by omega)
      have hs : qz_sum (fun i => if y (1216 + 4 * i + 0) = 2 then 1 else 0) (k + 1) = qz_sum (fun i => if y (1216 + 4 * i + 0) = 2 then 1 else 0) k + (if y (1216 + 4 * k + 0) = 2 then 1 else 0) := rfl
      by_cases hm : y (1216 + 4 * k + 0) = 2
      · rw [if_pos hm] at hs ⊢
        rw [qz_nm, qz_nm, nI_1, ← hs]
        exact hi
      · rw [if_neg hm] at hs ⊢
        rw [qz_nm, qz_nm, nI_1, ← hs]
        exact hi
theorem qz_queuedMany (h7 : y 7 = nI p) (hp : p ≤ 150) (hN : 200 ≤ N) : f_X8_queuedMany N (m_up Z 1 y) = some (qz_sum (fun i => if y (1216 + 4 * i + 0) = 2 then 1 else 0) p, m_up Z 1 y) := qz_queuedMany_l h7 hp N 0 (by omega) (by omega)
theorem qz_busyMany_l (h6 : y 6 = nI n) (hn : n ≤ 150) : ∀ fuel k : Nat, k ≤ n → n - k < fuel → f_X8_busyMany_4 N fuel (qz_sum (fun i => if 4 ≤ y (16 + 8 * i + 3) then 0 else 1) k) (nI k) (m_up Z 1 y) = some (qz_sum (fun i => if 4 ≤ y (16 + 8 * i + 3) then 0 else 1) n, m_up Z 1 y) := by
  intro fuel
  induction fuel with
  | zero => intro k _ h; omega
  | succ F ih =>
    intro k hk hF
    rw [f_X8_busyMany_4, qz_rd (v := 6) (w := 6) rfl (by omega), h6]
    by_cases e : k = n
    · subst e
      rw [if_pos (nI_le (Nat.le_refl _) (by omega))]
    · rw [if_neg (nI_ge (by omega) (by omega)), qz_of (v := 3) (w := 3) rfl (by omega) (by omega), qz_bi]
      have hi := ih (k + 1) (by omega) (by omega)
      have hs : qz_sum (fun i => if 4 ≤ y (16 + 8 * i + 3) then 0 else 1) (k + 1) = qz_sum (fun i => if 4 ≤ y (16 + 8 * i + 3) then 0 else 1) k + (if 4 ≤ y (16 + 8 * k + 3) then 0 else 1) := rfl
      by_cases hm : 4 ≤ y (16 + 8 * k + 3)
      · rw [if_pos hm] at hs ⊢
        rw [qz_nm, qz_nm, nI_1, ← hs]
        exact hi
      · rw [if_neg hm] at hs ⊢
        rw [qz_nm, qz_nm, nI_1, ← hs]
        exact hi
theorem qz_busyMany (h6 : y 6 = nI n) (hn : n ≤ 150) (hN : 200 ≤ N) : f_X8_busyMany N (m_up Z 1 y) = some (qz_sum (fun i => if 4 ≤ y (16 + 8 * i + 3) then 0 else 1) n, m_up Z 1 y) := qz_busyMany_l h6 hn N 0 (by omega) (by omega)
-- members turn
def qz_turn (y : Nat → Int32) (n : Nat) (g w : Int32) : Nat → Int32 := fun a => if (16 ≤ a ∧ (a - 16) % 8 = 3 ∧ (a - 16) / 8 < n) ∧ qz_mb y ((a - 16) / 8) g ∧ ¬ 4 ≤ y a then w else y a
def qz_turns (y : Nat → Int32) (n : Nat) (g : Int32) : Int32 := qz_sum (fun k => if qz_mb y k g ∧ ¬ 4 ≤ y (16 + 8 * k + 3) then 1 else 0) n
theorem qz_turn_o {a : Nat} (h : a < 16 ∨ (a - 16) % 8 ≠ 3 ∨ 16 + 8 * n ≤ a) : qz_turn y n g w a = y a := by
  unfold qz_turn
  rw [if_neg]
  rintro ⟨h1, _⟩
  omega
theorem qz_turn_3 {k : Nat} : qz_turn y n g w (16 + 8 * k + 3) = if k < n ∧ qz_mb y k g ∧ ¬ 4 ≤ y (16 + 8 * k + 3) then w else y (16 + 8 * k + 3) := by
  unfold qz_turn
  rw [show (16 + 8 * k + 3 - 16) / 8 = k by omega]
  by_cases h : k < n ∧ qz_mb y k g ∧ ¬ 4 ≤ y (16 + 8 * k + 3)
  · rw [if_pos h, if_pos ⟨⟨by omega, by omega, h.1⟩, h.2⟩]
  · rw [if_neg h, if_neg (fun q => h ⟨q.1.2.2, q.2⟩)]
theorem qz_turn_k {k : Nat} : qz_turn y k g w (16 + 8 * k + 3) = y (16 + 8 * k + 3) := by
  rw [qz_turn_3, if_neg (fun q => Nat.lt_irrefl _ q.1)]
theorem qz_turn_0 : qz_turn y 0 g w = y := by
  funext a
  exact qz_turn_o (by omega)
theorem qz_turn_s (k : Nat) : qz_turn y (k + 1) g w = if qz_mb y k g ∧ ¬ 4 ≤ y (16 + 8 * k + 3) then upd (qz_turn y k g w) (16 + 8 * k + 3) w else qz_turn y k g w := by
  funext a
  by_cases ha : a = 16 + 8 * k + 3
  · subst ha
    rw [qz_turn_3]
    by_cases h : qz_mb y k g ∧ ¬ 4 ≤ y (16 + 8 * k + 3)
    · rw [if_pos ⟨by omega, h⟩, if_pos h, qz_us]
    · rw [if_neg (fun q => h q.2), if_neg h, qz_turn_3, if_neg (fun q => h q.2)]
  · have e : qz_turn y (k + 1) g w a = qz_turn y k g w a := by
      unfold qz_turn
      by_cases h : (16 ≤ a ∧ (a - 16) % 8 = 3 ∧ (a - 16) / 8 < k) ∧ qz_mb y ((a - 16) / 8) g ∧ ¬ 4 ≤ y a
      · rw [if_pos h, if_pos ⟨⟨h.1.1, h.1.2.1, by omega⟩, h.2⟩]
      · rw [if_neg h, if_neg]
        rintro ⟨⟨h1, h2, h3⟩, h4⟩
        exact h ⟨⟨h1, h2, by omega⟩, h4⟩
    rw [e]
    by_cases h : qz_mb y k g ∧ ¬ 4 ≤ y (16 + 8 * k + 3)
    · rw [if_pos h, qz_uo ha]
    · rw [if_neg h]
theorem qz_turn_mb {k m : Nat} {g' : Int32} : qz_mb (qz_turn y m g w) k g' ↔ qz_mb y k g' := by
  unfold qz_mb
  rw [qz_turn_o (by omega), qz_turn_o (by omega)]
theorem qz_turn_l (h6 : y 6 = nI n) (hn : n ≤ 150) : ∀ fuel k : Nat, k ≤ n → n - k < fuel → f_X8_turnMembers_5 N fuel g w (qz_turns y k g) (nI k) (m_up Z 1 (qz_turn y k g w)) = some (qz_turns y n g, m_up Z 1 (qz_turn y n g w)) := by
  intro fuel
  induction fuel with
  | zero => intro k _ h; omega
  | succ F ih =>
    intro k hk hF
    rw [f_X8_turnMembers_5, qz_rd (v := 6) (w := 6) rfl (by omega), qz_turn_o (by omega), h6]
    by_cases e : k = n
    · subst e
      rw [if_pos (nI_le (Nat.le_refl _) (by omega))]
    · rw [if_neg (nI_ge (by omega) (by omega)), qz_isIn (by omega), qz_bi]
      have hi := ih (k + 1) (by omega) (by omega)
      have hs : qz_turns y (k + 1) g = qz_turns y k g + (if qz_mb y k g ∧ ¬ 4 ≤ y (16 + 8 * k + 3) then 1 else 0) := rfl
      have ht := qz_turn_s (y := y) (g := g) (w := w) k
      by_cases hm : qz_mb y k g
      · rw [if_pos (qz_turn_mb.mpr hm), if_neg (by decide), qz_of (v := 3) (w := 3) rfl (by omega) (by omega), qz_bi, qz_turn_k]
        by_cases h4 : 4 ≤ y (16 + 8 * k + 3)
        · rw [if_pos h4, qz_nm, nI_1]
          rw [if_neg (fun q => q.2 h4)] at hs ht
          rw [hs, ht, Int32.add_zero] at hi
          exact hi
        · rw [if_neg h4, qz_setOf (v := 3) (w := 3) rfl (by omega) (by omega), qz_bv, qz_nm, qz_nm, nI_1]
          rw [if_pos ⟨hm, h4⟩] at hs ht
          rw [hs, ht] at hi
          exact hi
      · rw [if_neg (fun q => hm (qz_turn_mb.mp q)), if_pos rfl, qz_nm, nI_1]
        rw [if_neg (fun q => hm q.1)] at hs ht
        rw [hs, ht, Int32.add_zero] at hi
        exact hi
theorem qz_turnMembers (h6 : y 6 = nI n) (hn : n ≤ 150) (hN : 200 ≤ N) : f_X8_turnMembers N g w (m_up Z 1 y) = some (qz_turns y n g, m_up Z 1 (qz_turn y n g w)) := by
  have h := qz_turn_l (N := N) (Z := Z) (g := g) (w := w) h6 hn N 0 (by omega) (by omega)
  rw [qz_turn_0] at h
  exact h
end QM1
