-- history and snapshot
section QH
variable {X Y Z : XT} {N T : Nat}
def qz_hist (T : Nat) (X Y : XT) (o h : Nat) : Prop := o < 4 ∧ h ≤ 4 ∧ X 127 1 = nI o ∧ X 127 2 = nI h ∧ Y 0 3 = nI h ∧ ∀ i : Nat, i < h → qz_S T (fun j => X (21 * (2 + (o + i) % 4) + j)) (fun a => Y 3 (1816 * i + a))
def qz_snap (T : Nat) (X Y : XT) : Prop := (X 126 4 = 0 ∧ Y 0 5 = 0) ∨ (X 126 4 = 1 ∧ Y 0 5 = 1 ∧ qz_S T (fun j => X (21 * 1 + j)) (Y 4))
def qz_text (X Y : XT) (l : Nat) : Prop := l ≤ 80 ∧ X 129 1 = nI l ∧ Y 0 7 = nI l ∧ ∀ q : Nat, q < l → X 130 q = Y 5 q ∧ ∃ ch : Nat, 32 ≤ ch ∧ ch ≤ 126 ∧ Y 5 q = nI ch
def qz_I (T : Nat) (X Y : XT) : Prop := qz_S T X (Y 1) ∧ qz_snap T X Y ∧ (∃ o h : Nat, qz_hist T X Y o h) ∧ ∃ l : Nat, qz_text X Y l
/-- calls that touch the first log and the model's state alone -/
theorem qz_I_fr {T2 : Nat} {X2 : XT} {y2 : Nat → Int32} (h : qz_I T X Y) (hT : T ≤ T2) (hf : qz_fr X X2) (hS : qz_S T2 X2 y2) : qz_I T2 X2 (m_up Y 1 y2) := by
  obtain ⟨_, h2, ⟨o, hh, h3⟩, ⟨l, h4⟩⟩ := h
  refine ⟨by rw [qz_up]; exact hS, ?_, ⟨o, hh, ?_⟩, ⟨l, ?_⟩⟩
  · rcases h2 with ⟨q1, q2⟩ | ⟨q1, q2, q3⟩
    · exact Or.inl ⟨by rw [hf 126 (by omega)]; exact q1, by rw [qz_un _ _ (by decide)]; exact q2⟩
    · refine Or.inr ⟨by rw [hf 126 (by omega)]; exact q1, by rw [qz_un _ _ (by decide)]; exact q2, qz_S_le hT (qz_S_cp q3 (qz_cp_eq (fun i hi => hf (21 * 1 + i) (by omega))) (fun a _ => by rw [qz_un _ _ (by decide)]))⟩
  · obtain ⟨a1, a2, a3, a4, a5, a6⟩ := h3
    refine ⟨a1, a2, by rw [hf 127 (by omega)]; exact a3, by rw [hf 127 (by omega)]; exact a4, by rw [qz_un _ _ (by decide)]; exact a5, fun i hi => ?_⟩
    exact qz_S_le hT (qz_S_cp (a6 i hi) (qz_cp_eq (fun j hj => hf (21 * (2 + (o + i) % 4) + j) (by omega))) (fun a _ => by rw [qz_un _ _ (by decide)]))
  · obtain ⟨a1, a2, a3, a4⟩ := h4
    refine ⟨a1, by rw [hf 129 (by omega)]; exact a2, by rw [qz_un _ _ (by decide)]; exact a3, fun q hq => ?_⟩
    rw [hf 130 (by omega), qz_un _ _ (show (5 : Nat) ≠ 1 by decide)]
    exact a4 q hq
-- the model's copying loops
def qz_sh (z : Nat → Int32) (k : Nat) : Nat → Int32 := fun a => if a < k then z (a + 1816) else z a
def qz_c0 (z y : Nat → Int32) (off dst k : Nat) : Nat → Int32 := fun a => if dst ≤ a ∧ a < dst + k then y (off + (a - dst)) else z a
theorem qz_c0_0 {z y : Nat → Int32} {off dst : Nat} : qz_c0 z y off dst 0 = z := by
  funext a
  unfold qz_c0
  rw [if_neg (by omega)]
theorem qz_c0_s {z y : Nat → Int32} {off dst k : Nat} : upd (qz_c0 z y off dst k) (dst + k) (y (off + k)) = qz_c0 z y off dst (k + 1) := by
  funext a
  by_cases h : a = dst + k
  · rw [h, qz_us]
    unfold qz_c0
    rw [if_pos (by omega), Nat.add_sub_cancel_left]
  · rw [qz_uo h]
    unfold qz_c0
    by_cases q : dst ≤ a ∧ a < dst + k
    · rw [if_pos q, if_pos (by omega)]
    · rw [if_neg q, if_neg (by omega)]
theorem qz_c0_in {z y : Nat → Int32} {off dst k a : Nat} (h : a < k) : qz_c0 z y off dst k (dst + a) = y (off + a) := by
  unfold qz_c0
  rw [if_pos (by omega), Nat.add_sub_cancel_left]
theorem qz_c0_out {z y : Nat → Int32} {off dst k a : Nat} (h : a < dst ∨ dst + k ≤ a) : qz_c0 z y off dst k a = z a := by
  unfold qz_c0
  rw [if_neg (by omega)]
theorem qz_1816 (k : Nat) : nI k + 1816 = nI (k + 1816) := by rw [show (1816 : Int32) = nI 1816 from rfl, nI_add]
theorem qz_m1816 (s k : Nat) : nI s * 1816 + nI k = nI (1816 * s + k) := by rw [show (1816 : Int32) = nI 1816 from rfl, pk_mul, nI_add, Nat.mul_comm]
theorem qz_rec10 {z : Nat → Int32} : ∀ fuel k : Nat, k ≤ 5448 → 5448 - k < fuel → f_X8_record_10 N fuel (nI k) (m_up Y 3 (qz_sh z k)) = f_X8_record_39 N (m_up Y 3 (qz_sh z 5448)) := by
  intro fuel
  induction fuel with
  | zero => intro k _ h; omega
  | succ F ih =>
    intro k hk hF
    rw [f_X8_record_10, show (5448 : Int32) = nI 5448 from rfl]
    by_cases e : k = 5448
    · rw [e, if_pos (nI_le (Nat.le_refl _) (by omega))]
    · rw [if_neg (nI_ge (by omega) (by omega)), qz_1816, qz_nm, qz_rdc rfl (show k + 1816 < 7264 by omega), qz_gd (qz_in (by omega) (by omega)), nI_clamp (by omega), qz_nm, qz_nm, nI_1, qz_up, qz_uu]
      have e1 : upd (qz_sh z k) k (qz_sh z k (k + 1816)) = qz_sh z (k + 1) := by
        funext a
        unfold qz_sh
        by_cases h : a = k
        · rw [h, qz_us, if_neg (by omega), if_pos (by omega)]
        · rw [qz_uo h]
          by_cases q : a < k
          · rw [if_pos q, if_pos (by omega)]
          · rw [if_neg q, if_neg (by omega)]
      rw [e1]
      exact ih (k + 1) (by omega) (by omega)
theorem qz_rec51 {s : Nat} {z : Nat → Int32} (hs : s < 4) (h3 : Y 0 3 = nI s) : ∀ fuel k : Nat, k ≤ 1816 → 1816 - k < fuel → f_X8_record_51 N fuel (nI k) (m_up Y 3 (qz_c0 z (Y 1) 0 (1816 * s) k)) = f_X8_record_85 N (m_up Y 3 (qz_c0 z (Y 1) 0 (1816 * s) 1816)) := by
  intro fuel
  induction fuel with
  | zero => intro k _ h; omega
  | succ F ih =>
    intro k hk hF
    rw [f_X8_record_51]
    by_cases e : k = 1816
    · rw [e, if_pos (show (1816 : Int32) ≤ nI 1816 from nI_le (Nat.le_refl _) (by omega))]
    · rw [if_neg (show ¬ (1816 : Int32) ≤ nI k from nI_ge (a := k) (b := 1816) (by omega) (by omega)), qz_nm, qz_nm, qz_un _ _ (show (0 : Nat) ≠ 3 by decide), h3, qz_m1816, qz_rdc rfl (show k < 1816 by omega), qz_gd (qz_in (by omega) (by omega)), nI_clamp (by omega), qz_nm, qz_nm, nI_1, qz_un _ _ (show (1 : Nat) ≠ 3 by decide), qz_up, qz_uu]
      have e1 := qz_c0_s (z := z) (y := Y 1) (off := 0) (dst := 1816 * s) (k := k)
      rw [Nat.zero_add] at e1
      rw [e1]
      exact ih (k + 1) (by omega) (by omega)
theorem qz_undo22 {s : Nat} {z : Nat → Int32} (hs : s < 4) (h3 : Y 0 3 = nI s) : ∀ fuel k : Nat, k ≤ 1816 → 1816 - k < fuel → f_X8_undo_22 N fuel (nI k) (m_up Y 1 (qz_c0 z (Y 3) (1816 * s) 0 k)) = some (nI s, m_up Y 1 (qz_c0 z (Y 3) (1816 * s) 0 1816)) := by
  intro fuel
  induction fuel with
  | zero => intro k _ h; omega
  | succ F ih =>
    intro k hk hF
    rw [f_X8_undo_22]
    by_cases e : k = 1816
    · rw [e, if_pos (show (1816 : Int32) ≤ nI 1816 from nI_le (Nat.le_refl _) (by omega)), qz_un _ _ (show (0 : Nat) ≠ 1 by decide), h3]
    · rw [if_neg (show ¬ (1816 : Int32) ≤ nI k from nI_ge (a := k) (b := 1816) (by omega) (by omega)), qz_nm, qz_nm, qz_un _ _ (show (0 : Nat) ≠ 1 by decide), h3, qz_m1816, qz_rdc rfl (show 1816 * s + k < 7264 by omega), qz_gd (qz_in (by omega) (by omega)), nI_clamp (by omega), qz_nm, qz_nm, nI_1, qz_un _ _ (show (3 : Nat) ≠ 1 by decide), qz_up, qz_uu]
      have e1 := qz_c0_s (z := z) (y := Y 3) (off := 1816 * s) (dst := 0) (k := k)
      rw [Nat.zero_add] at e1
      rw [e1]
      exact ih (k + 1) (by omega) (by omega)
theorem qz_save2 {z : Nat → Int32} : ∀ fuel k : Nat, k ≤ 1816 → 1816 - k < fuel → f_X8_save_2 N fuel (nI k) (m_up Y 4 (qz_c0 z (Y 1) 0 0 k)) = f_X8_save_27 N (m_up Y 4 (qz_c0 z (Y 1) 0 0 1816)) := by
  intro fuel
  induction fuel with
  | zero => intro k _ h; omega
  | succ F ih =>
    intro k hk hF
    rw [f_X8_save_2]
    by_cases e : k = 1816
    · rw [e, if_pos (show (1816 : Int32) ≤ nI 1816 from nI_le (Nat.le_refl _) (by omega))]
    · rw [if_neg (show ¬ (1816 : Int32) ≤ nI k from nI_ge (a := k) (b := 1816) (by omega) (by omega)), qz_rdc rfl (show k < 1816 by omega), qz_gd (qz_in (by omega) (by omega)), nI_clamp (by omega), qz_nm, qz_nm, nI_1, qz_un _ _ (show (1 : Nat) ≠ 4 by decide), qz_up, qz_uu]
      have e1 := qz_c0_s (z := z) (y := Y 1) (off := 0) (dst := 0) (k := k)
      rw [Nat.zero_add] at e1
      rw [e1]
      exact ih (k + 1) (by omega) (by omega)
theorem qz_restore16 {z : Nat → Int32} : ∀ fuel k : Nat, k ≤ 1816 → 1816 - k < fuel → f_X8_restore_16 N fuel (nI k) (m_up Y 1 (qz_c0 z (Y 4) 0 0 k)) = f_X8_restore_41 N (m_up Y 1 (qz_c0 z (Y 4) 0 0 1816)) := by
  intro fuel
  induction fuel with
  | zero => intro k _ h; omega
  | succ F ih =>
    intro k hk hF
    rw [f_X8_restore_16]
    by_cases e : k = 1816
    · rw [e, if_pos (show (1816 : Int32) ≤ nI 1816 from nI_le (Nat.le_refl _) (by omega))]
    · rw [if_neg (show ¬ (1816 : Int32) ≤ nI k from nI_ge (a := k) (b := 1816) (by omega) (by omega)), qz_rdc rfl (show k < 1816 by omega), qz_gd (qz_in (by omega) (by omega)), nI_clamp (by omega), qz_nm, qz_nm, nI_1, qz_un _ _ (show (4 : Nat) ≠ 1 by decide), qz_up, qz_uu]
      have e1 := qz_c0_s (z := z) (y := Y 4) (off := 0) (dst := 0) (k := k)
      rw [Nat.zero_add] at e1
      rw [e1]
      exact ih (k + 1) (by omega) (by omega)
theorem qz_aside2 {z : Nat → Int32} : ∀ fuel k : Nat, k ≤ 1816 → 1816 - k < fuel → f_X8_putAside_2 N fuel (nI k) (m_up Y 2 (qz_c0 z (Y 1) 0 0 k)) = some (m_up Y 2 (qz_c0 z (Y 1) 0 0 1816)) := by
  intro fuel
  induction fuel with
  | zero => intro k _ h; omega
  | succ F ih =>
    intro k hk hF
    rw [f_X8_putAside_2]
    by_cases e : k = 1816
    · rw [e, if_pos (show (1816 : Int32) ≤ nI 1816 from nI_le (Nat.le_refl _) (by omega))]
    · rw [if_neg (show ¬ (1816 : Int32) ≤ nI k from nI_ge (a := k) (b := 1816) (by omega) (by omega)), qz_rdc rfl (show k < 1816 by omega), qz_gd (qz_in (by omega) (by omega)), nI_clamp (by omega), qz_nm, qz_nm, nI_1, qz_un _ _ (show (1 : Nat) ≠ 2 by decide), qz_up, qz_uu]
      have e1 := qz_c0_s (z := z) (y := Y 1) (off := 0) (dst := 0) (k := k)
      rw [Nat.zero_add] at e1
      rw [e1]
      exact ih (k + 1) (by omega) (by omega)
theorem qz_back2 {z : Nat → Int32} : ∀ fuel k : Nat, k ≤ 1816 → 1816 - k < fuel → f_X8_takeBack_2 N fuel (nI k) (m_up Y 1 (qz_c0 z (Y 2) 0 0 k)) = some (m_up Y 1 (qz_c0 z (Y 2) 0 0 1816)) := by
  intro fuel
  induction fuel with
  | zero => intro k _ h; omega
  | succ F ih =>
    intro k hk hF
    rw [f_X8_takeBack_2]
    by_cases e : k = 1816
    · rw [e, if_pos (show (1816 : Int32) ≤ nI 1816 from nI_le (Nat.le_refl _) (by omega))]
    · rw [if_neg (show ¬ (1816 : Int32) ≤ nI k from nI_ge (a := k) (b := 1816) (by omega) (by omega)), qz_rdc rfl (show k < 1816 by omega), qz_gd (qz_in (by omega) (by omega)), nI_clamp (by omega), qz_nm, qz_nm, nI_1, qz_un _ _ (show (2 : Nat) ≠ 1 by decide), qz_up, qz_uu]
      have e1 := qz_c0_s (z := z) (y := Y 2) (off := 0) (dst := 0) (k := k)
      rw [Nat.zero_add] at e1
      rw [e1]
      exact ih (k + 1) (by omega) (by omega)
theorem qz_bk {α : Type} {o : Nat × XT} {k : Nat → XT → Option α} : m_bk (some o) k = k o.1 o.2 := rfl
theorem qz_bks {α : Type} {r : Nat} {X : XT} {k : Nat → XT → Option α} : m_bk (some (r, X)) k = k r X := rfl
/-- the place of a state of the history -/
theorem qz_stateAt {N : Nat} {X : XT} {o h : Nat} (h1 : X 127 1 = nI o) (ho : o < 4) (hh : h < 4) : f_X2_stateAt N (nI h) X = some (2 + (o + h) % 4, X) := by
  have hr : nI (o + h) - nI (o + h) / 4 * 4 = nI ((o + h) % 4) := by
    rw [show (4 : Int32) = nI 4 from rfl]
    exact pk_rem (by omega) (by omega) (by omega)
  unfold f_X2_stateAt
  rw [h1, nI_add, qz_nm, hr, qz_nm, if_neg (show ¬ nI ((o + h) % 4) < 0 from nI_pos (by omega)), if_neg (show ¬ (4 : Int32) ≤ nI ((o + h) % 4) from nI_ge (b := 4) (by omega) (by omega)), qz_gd (qz_in (by omega) (by omega)), nI_clamp (by omega), qz_gd (by omega)]
/-- rows of the law stay -/
def qz_fz (X X2 : XT) : Prop := ∀ i : Nat, 131 ≤ i → X2 i = X i
/-- the last state of the history is the row as it was -/
def qz_top (Y Y2 : XT) (h : Nat) : Prop := 1 ≤ h ∧ h ≤ 4 ∧ Y2 0 3 = nI h ∧ ∀ a : Nat, a < 1816 → Y2 3 (1816 * (h - 1) + a) = Y 1 a
/-- what a push keeps beside the history -/
def qz_same (X X2 Y Y2 : XT) : Prop := (∀ i : Nat, i < 42 → X2 i = X i) ∧ X2 126 = X 126 ∧ X2 129 = X 129 ∧ X2 130 = X 130 ∧ (∀ s : Nat, s ≠ 3 → Y2 0 s = Y 0 s) ∧ Y2 1 = Y 1 ∧ Y2 4 = Y 4 ∧ Y2 5 = Y 5
theorem qz_push30 {o h : Nat} (hS : qz_S T X (Y 1)) (hh : qz_hist T X Y o h) (h4 : h < 4) (hN : 6000 ≤ N) : ∃ X2 Y2 : XT, f_X2_push_30 N X = some X2 ∧ f_X8_record_51 N N 0 Y = some Y2 ∧ qz_hist T X2 Y2 o (h + 1) ∧ qz_same X X2 Y Y2 ∧ qz_top Y Y2 (h + 1) ∧ qz_fz X X2 := by
  obtain ⟨a1, a2, a3, a4, a5, a6⟩ := hh
  have hSS := hS
  obtain ⟨n, p, f, e, t, hR, _, _⟩ := hS
  have hm : nI o + nI h = nI (o + h) := nI_add o h
  have hr : nI (o + h) - nI (o + h) / 4 * 4 = nI ((o + h) % 4) := by
    rw [show (4 : Int32) = nI 4 from rfl]
    exact pk_rem (by omega) (by omega) (by omega)
  obtain ⟨XC, c1, c2, c3⟩ := qz_copyFrom (N := N) (k1 := 2 + (o + h) % 4) (k2 := 0) (X := X) (by omega) (by rw [Nat.mul_zero, Nat.zero_add]; exact qzR_b4 hR) (by rw [Nat.mul_zero, Nat.zero_add]; exact qzR_b9 hR)
  have hM := qz_rec51 (N := N) (Y := Y) (z := Y 3) h4 a5 N 0 (by omega) (by omega)
  rw [qz_c0_0, qz_ue, nI_0] at hM
  have hX : f_X2_push_30 N X = some (m_up XC 127 (upd (XC 127) 2 (nI (h + 1)))) := by
    unfold f_X2_push_30
    rw [a4, qz_stateAt a3 a1 h4, qz_bks, qz_gd (by omega), c1, qz_bv, c2 127 (by omega), a4, nI_1, qz_nm, qz_nm]
  have hY : f_X8_record_51 N N 0 Y = some (m_up (m_up Y 3 (qz_c0 (Y 3) (Y 1) 0 (1816 * h) 1816)) 0 (upd (Y 0) 3 (nI (h + 1)))) := by
    rw [hM]
    unfold f_X8_record_85
    rw [qz_un _ _ (show (0 : Nat) ≠ 3 by decide), a5, nI_1, qz_nm, qz_nm]
  refine ⟨_, _, hX, hY, ⟨a1, by omega, ?_, ?_, ?_, fun i hi => ?_⟩, ⟨fun i hi => ?_, ?_, ?_, ?_, fun s s3 => ?_, ?_, ?_, ?_⟩, ⟨by omega, by omega, ?_, fun a ha => ?_⟩, fun i hi => ?_⟩
  · rw [qz_up, qz_uo (by decide), c2 127 (by omega)]; exact a3
  · rw [qz_up, qz_us]
  · rw [qz_up, qz_us]
  · by_cases e1 : i = h
    · subst e1
      refine qz_S_cp (x := X) (y := Y 1) hSS ?_ ?_
      · have q := c3
        have q0 : (fun j => X (21 * 0 + j)) = X := by funext j; rw [Nat.mul_zero, Nat.zero_add]
        rw [q0] at q
        have q2 : (fun j => m_up XC 127 (upd (XC 127) 2 (nI (i + 1))) (21 * (2 + (o + i) % 4) + j)) = fun j => if 21 * (2 + (o + i) % 4) + j = 127 then upd (XC 127) 2 (nI (i + 1)) else XC (21 * (2 + (o + i) % 4) + j) := rfl
        obtain ⟨z0, z1, z10, z151, z152, zr, z18, z19, z20⟩ := q
        refine ⟨fun s s1 s2 => ?_, ?_, ?_, ?_, ?_, fun i k hi hk => ?_, fun k hk => ?_, fun k hk => ?_, fun k hk => ?_⟩
        · show m_up XC 127 _ _ s = _
          rw [qz_un _ _ (by omega)]; exact z0 s s1 s2
        · show m_up XC 127 _ _ _ = _
          rw [qz_un _ _ (by omega)]; exact z1
        · show m_up XC 127 _ _ _ = _
          rw [qz_un _ _ (by omega)]; exact z10
        · show m_up XC 127 _ _ _ = _
          rw [qz_un _ _ (by omega)]; exact z151
        · show m_up XC 127 _ _ _ = _
          rw [qz_un _ _ (by omega)]; exact z152
        · show m_up XC 127 _ _ _ = _
          rw [qz_un _ _ (by omega)]; exact zr i k hi hk
        · show m_up XC 127 _ _ _ = _
          rw [qz_un _ _ (by omega)]; exact z18 k hk
        · show m_up XC 127 _ _ _ = _
          rw [qz_un _ _ (by omega)]; exact z19 k hk
        · show m_up XC 127 _ _ _ = _
          rw [qz_un _ _ (by omega)]; exact z20 k hk
      · intro a ha
        show m_up (m_up Y 3 (qz_c0 (Y 3) (Y 1) 0 (1816 * i) 1816)) 0 (upd (Y 0) 3 (nI (i + 1))) 3 (1816 * i + a) = Y 1 a
        rw [qz_un _ _ (by decide), qz_up, qz_c0_in ha, Nat.zero_add]
    · refine qz_S_cp (a6 i (by omega)) (qz_cp_eq (fun j hj => ?_)) (fun a ha => ?_)
      · show m_up XC 127 _ _ = _
        rw [qz_un _ _ (by omega), c2 _ (by omega)]
      · show m_up (m_up Y 3 (qz_c0 (Y 3) (Y 1) 0 (1816 * h) 1816)) 0 (upd (Y 0) 3 (nI (h + 1))) 3 (1816 * i + a) = Y 3 (1816 * i + a)
        rw [qz_un _ _ (by decide), qz_up, qz_c0_out (by omega)]
  · rw [qz_un _ _ (by omega), c2 i (by omega)]
  · rw [qz_un _ _ (by omega), c2 126 (by omega)]
  · rw [qz_un _ _ (by omega), c2 129 (by omega)]
  · rw [qz_un _ _ (by omega), c2 130 (by omega)]
  · rw [qz_up, qz_uo s3]
  · rw [qz_un _ _ (by decide), qz_un _ _ (by decide)]
  · rw [qz_un _ _ (by decide), qz_un _ _ (by decide)]
  · rw [qz_un _ _ (by decide), qz_un _ _ (by decide)]
  · rw [qz_up, qz_us]
  · rw [qz_un _ _ (by decide), qz_up, show 1816 * (h + 1 - 1) + a = 1816 * h + a by rw [Nat.add_sub_cancel], qz_c0_in ha, Nat.zero_add]
  · rw [qz_un _ _ (by omega), c2 i (by omega)]
theorem qz_push (hI : qz_I T X Y) (hN : 6000 ≤ N) : ∃ X2 Y2 : XT, f_X2_push N X = some X2 ∧ f_X8_record N Y = some Y2 ∧ qz_I T X2 Y2 ∧ qz_same X X2 Y Y2 ∧ (∃ h2 : Nat, qz_top Y Y2 h2) ∧ qz_fz X X2 := by
  obtain ⟨hS, hs, ⟨o, h, hh⟩, ⟨l, hl⟩⟩ := hI
  -- the rest follows from what is kept
  have hrest : ∀ (X2 Y2 : XT) (o2 h2 : Nat), qz_hist T X2 Y2 o2 h2 → qz_same X X2 Y Y2 → qz_I T X2 Y2 := by
    rintro X2 Y2 o2 h2 q1 ⟨z1, z2, z3, z4, z5, z6, z7, z8⟩
    refine ⟨?_, ?_, ⟨o2, h2, q1⟩, ⟨l, ?_⟩⟩
    · rw [z6]
      exact qz_S_cp hS (qz_cp_eq (fun i hi => z1 i (by omega))) (fun _ _ => rfl)
    · rcases hs with ⟨u1, u2⟩ | ⟨u1, u2, u3⟩
      · exact Or.inl ⟨by rw [z2]; exact u1, by rw [z5 5 (by decide)]; exact u2⟩
      · refine Or.inr ⟨by rw [z2]; exact u1, by rw [z5 5 (by decide)]; exact u2, ?_⟩
        rw [z7]
        exact qz_S_cp u3 (qz_cp_eq (fun i hi => z1 (21 * 1 + i) (by omega))) (fun _ _ => rfl)
    · obtain ⟨b1, b2, b3, b4⟩ := hl
      exact ⟨b1, by rw [z3]; exact b2, by rw [z5 7 (by decide)]; exact b3, fun q hq => by rw [z4, z8]; exact b4 q hq⟩
  unfold f_X2_push f_X8_record
  by_cases h4 : h = 4
  · subst h4
    obtain ⟨a1, a2, a3, a4, a5, a6⟩ := hh
    rw [a4, a5, if_pos (show nI 4 = (4 : Int32) from rfl), if_pos (show nI 4 = (4 : Int32) from rfl)]
    have hr : nI (o + 1) - nI (o + 1) / 4 * 4 = nI ((o + 1) % 4) := by
      rw [show (4 : Int32) = nI 4 from rfl]
      exact pk_rem (by omega) (by omega) (by omega)
    have hsh := qz_rec10 (N := N) (Y := Y) (z := Y 3) N 0 (by omega) (by omega)
    have h0 : qz_sh (Y 3) 0 = Y 3 := by
      funext a
      unfold qz_sh
      rw [if_neg (by omega)]
    rw [h0, qz_ue, nI_0] at hsh
    rw [hsh]
    unfold f_X8_record_39
    have hh2 : qz_hist T (m_up X 127 (upd (upd (X 127) 1 (nI ((o + 1) % 4))) 2 (nI 3))) (m_up (m_up Y 3 (qz_sh (Y 3) 5448)) 0 (upd (Y 0) 3 (nI 3))) ((o + 1) % 4) 3 := by
      refine ⟨by omega, by omega, ?_, ?_, ?_, fun i hi => ?_⟩
      · rw [qz_up, qz_uo (by decide), qz_us]
      · rw [qz_up, qz_us]
      · rw [qz_up, qz_us]
      · refine qz_S_cp (a6 (i + 1) (by omega)) (qz_cp_eq (fun j hj => ?_)) (fun a ha => ?_)
        · show m_up X 127 _ (21 * (2 + ((o + 1) % 4 + i) % 4) + j) = X (21 * (2 + (o + (i + 1)) % 4) + j)
          rw [qz_un _ _ (by omega), show ((o + 1) % 4 + i) % 4 = (o + (i + 1)) % 4 by omega]
        · show m_up (m_up Y 3 (qz_sh (Y 3) 5448)) 0 (upd (Y 0) 3 (nI 3)) 3 (1816 * i + a) = Y 3 (1816 * (i + 1) + a)
          rw [qz_un _ _ (by decide), qz_up]
          unfold qz_sh
          rw [if_pos (by omega), show 1816 * i + a + 1816 = 1816 * (i + 1) + a by omega]
    have hS2 : qz_S T (m_up X 127 (upd (upd (X 127) 1 (nI ((o + 1) % 4))) 2 (nI 3))) (m_up (m_up Y 3 (qz_sh (Y 3) 5448)) 0 (upd (Y 0) 3 (nI 3)) 1) := by
      rw [qz_un _ _ (by decide), qz_un _ _ (by decide)]
      exact qz_S_cp hS (qz_cp_eq (fun i hi => qz_un _ _ (by omega))) (fun _ _ => rfl)
    obtain ⟨X2, Y2, p1, p2, p3, p4, ⟨t1, t2, t3, t4⟩, p6⟩ := qz_push30 (N := N) hS2 hh2 (by omega) hN
    have hsm : qz_same X X2 Y Y2 := by
      obtain ⟨z1, z2, z3, z4, z5, z6, z7, z8⟩ := p4
      refine ⟨fun i hi => ?_, ?_, ?_, ?_, fun s s3 => ?_, ?_, ?_, ?_⟩
      · rw [z1 i hi, qz_un _ _ (by omega)]
      · rw [z2, qz_un _ _ (by omega)]
      · rw [z3, qz_un _ _ (by omega)]
      · rw [z4, qz_un _ _ (by omega)]
      · rw [z5 s s3, qz_up, qz_uo s3]
      · rw [z6, qz_un _ _ (by decide), qz_un _ _ (by decide)]
      · rw [z7, qz_un _ _ (by decide), qz_un _ _ (by decide)]
      · rw [z8, qz_un _ _ (by decide), qz_un _ _ (by decide)]
    have e3 : nI 4 - 1 = nI 3 := nI_pred 3
    refine ⟨X2, Y2, ?_, ?_, hrest X2 Y2 _ _ p3 hsm, hsm, ⟨_, t1, t2, t3, fun a ha => by rw [t4 a ha, qz_un _ _ (by decide), qz_un _ _ (by decide)]⟩, fun i hi => by rw [p6 i hi, qz_un _ _ (by omega)]⟩
    · rw [a3, nI_1, qz_nm, hr, qz_nm, qz_nm, qz_up, qz_uo (show (2 : Nat) ≠ 1 by decide), a4, e3, qz_nm, qz_uu, qz_nm]
      exact p1
    · rw [qz_un _ _ (show (0 : Nat) ≠ 3 by decide), a5, e3, qz_nm, qz_nm]
      exact p2
  · have hlt : h < 4 := by
      have := hh.2.1
      omega
    obtain ⟨X2, Y2, p1, p2, p3, p4, p5, p6⟩ := qz_push30 (N := N) hS hh hlt hN
    obtain ⟨a1, a2, a3, a4, a5, a6⟩ := hh
    have hne : ¬ nI h = (4 : Int32) := fun q => h4 ((nI_eq (b := 4) (by omega) (by omega)).mp q)
    refine ⟨X2, Y2, ?_, ?_, hrest X2 Y2 _ _ p3 p4, p4, ⟨_, p5⟩, p6⟩
    · rw [a4, if_neg hne]; exact p1
    · rw [a5, if_neg hne]; exact p2
end QH
