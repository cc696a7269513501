-- a group is written to its end
section QF
variable {X Z : XT} {y : Nat → Int32} {N n p f e t b j0 : Nat} {g : Int32}
abbrev qz_hit (X : XT) (g : Int32) (i : Nat) : Prop := ¬ X 20 i = -5 ∧ X 8 (X 20 i).toNatClampNeg = g
def qz_fs (g : Int32) (c : Nat) (X : XT) : XT := if X 20 c = -5 then X else if X 8 (X 20 c).toNatClampNeg = g then m_up (m_up (m_up (m_up X 5 (upd (X 5) (X 20 c).toNatClampNeg 4)) 7 (upd (X 7) (X 20 c).toNatClampNeg (X 0 6))) 20 (upd (X 20) c (-5))) 19 (upd (X 19) 7 (X 19 7 + (X 0 6 - X 6 (X 20 c).toNatClampNeg))) else X
def qz_ft (g : Int32) (X : XT) : Nat → XT
  | 0 => X
  | c + 1 => qz_fs g c (qz_ft g X c)
theorem qz_fs_row {c i : Nat} (h5 : i ≠ 5) (h7 : i ≠ 7) (h20 : i ≠ 20) (h19 : i ≠ 19) : qz_fs g c X i = X i := by
  unfold qz_fs
  split
  · rfl
  · split
    · rw [qz_un _ _ h19, qz_un _ _ h20, qz_un _ _ h7, qz_un _ _ h5]
    · rfl
theorem qz_ft_row {i : Nat} (h5 : i ≠ 5) (h7 : i ≠ 7) (h20 : i ≠ 20) (h19 : i ≠ 19) : ∀ c : Nat, qz_ft g X c i = X i
  | 0 => rfl
  | c + 1 => (qz_fs_row h5 h7 h20 h19).trans (qz_ft_row h5 h7 h20 h19 c)
theorem qz_ft_20 : ∀ c i : Nat, qz_ft g X c 20 i = if i < c ∧ qz_hit X g i then -5 else X 20 i := by
  intro c
  induction c with
  | zero => intro i; rw [if_neg (fun q => absurd q.1 (by omega))]; rfl
  | succ c ih =>
    intro i
    have e8 : qz_ft g X c 8 = X 8 := qz_ft_row (by decide) (by decide) (by decide) (by decide) c
    have ec : qz_ft g X c 20 c = X 20 c := by rw [ih, if_neg (fun q => absurd q.1 (by omega))]
    show qz_fs g c (qz_ft g X c) 20 i = _
    unfold qz_fs
    rw [ec, e8]
    by_cases h1 : X 20 c = -5
    · rw [if_pos h1, ih]
      by_cases hi : i < c ∧ qz_hit X g i
      · rw [if_pos hi, if_pos ⟨by omega, hi.2⟩]
      · rw [if_neg hi, if_neg]
        rintro ⟨a, d⟩
        by_cases hic : i = c
        · exact d.1 (hic ▸ h1)
        · exact hi ⟨by omega, d⟩
    · rw [if_neg h1]
      by_cases h2 : X 8 (X 20 c).toNatClampNeg = g
      · rw [if_pos h2, qz_un _ _ (by decide), qz_up]
        by_cases hic : i = c
        · rw [hic, qz_us, if_pos ⟨by omega, h1, h2⟩]
        · rw [qz_uo hic, ih]
          by_cases hi : i < c ∧ qz_hit X g i
          · rw [if_pos hi, if_pos ⟨by omega, hi.2⟩]
          · rw [if_neg hi, if_neg (fun q => hi ⟨by omega, q.2⟩)]
      · rw [if_neg h2, ih]
        by_cases hi : i < c ∧ qz_hit X g i
        · rw [if_pos hi, if_pos ⟨by omega, hi.2⟩]
        · rw [if_neg hi, if_neg]
          rintro ⟨a, d⟩
          by_cases hic : i = c
          · exact h2 (hic ▸ d.2)
          · exact hi ⟨by omega, d⟩
theorem qz_ft_c (c : Nat) : qz_ft g X c 20 c = X 20 c := by rw [qz_ft_20, if_neg (fun q => absurd q.1 (by omega))]
theorem qz_ft_s (c : Nat) : qz_ft g X (c + 1) = if qz_hit X g c then m_up (m_up (m_up (m_up (qz_ft g X c) 5 (upd (qz_ft g X c 5) (X 20 c).toNatClampNeg 4)) 7 (upd (qz_ft g X c 7) (X 20 c).toNatClampNeg (X 0 6))) 20 (upd (qz_ft g X c 20) c (-5))) 19 (upd (qz_ft g X c 19) 7 (qz_ft g X c 19 7 + (X 0 6 - X 6 (X 20 c).toNatClampNeg))) else qz_ft g X c := by
  show qz_fs g c (qz_ft g X c) = _
  unfold qz_fs
  rw [qz_ft_c, qz_ft_row (i := 8) (by decide) (by decide) (by decide) (by decide) c, qz_ft_row (i := 0) (by decide) (by decide) (by decide) (by decide) c, qz_ft_row (i := 6) (by decide) (by decide) (by decide) (by decide) c]
  by_cases h1 : X 20 c = -5
  · rw [if_pos h1, if_neg (fun q => q.1 h1)]
  · rw [if_neg h1]
    by_cases h2 : X 8 (X 20 c).toNatClampNeg = g
    · rw [if_pos h2, if_pos ⟨h1, h2⟩]
    · rw [if_neg h2, if_neg (fun q => h2 q.2)]
theorem qz_ft_57 : ∀ c k : Nat, ((∃ i : Nat, i < c ∧ qz_hit X g i ∧ (X 20 i).toNatClampNeg = k) → qz_ft g X c 5 k = 4 ∧ qz_ft g X c 7 k = X 0 6) ∧ (¬ (∃ i : Nat, i < c ∧ qz_hit X g i ∧ (X 20 i).toNatClampNeg = k) → qz_ft g X c 5 k = X 5 k ∧ qz_ft g X c 7 k = X 7 k) := by
  intro c
  induction c with
  | zero => intro k; exact ⟨fun ⟨i, q, _⟩ => absurd q (by omega), fun _ => ⟨rfl, rfl⟩⟩
  | succ c ih =>
    intro k
    rw [qz_ft_s]
    by_cases hh : qz_hit X g c
    · rw [if_pos hh]
      rw [qz_un _ _ (show (5 : Nat) ≠ 19 by decide), qz_un _ _ (show (5 : Nat) ≠ 20 by decide), qz_un _ _ (show (5 : Nat) ≠ 7 by decide), qz_un _ _ (show (7 : Nat) ≠ 19 by decide), qz_un _ _ (show (7 : Nat) ≠ 20 by decide), qz_up, qz_up]
      by_cases hk : k = (X 20 c).toNatClampNeg
      · rw [hk, qz_us, qz_us]
        exact ⟨fun _ => ⟨rfl, rfl⟩, fun q => absurd ⟨c, by omega, hh, rfl⟩ q⟩
      · rw [qz_uo hk, qz_uo hk]
        refine ⟨fun ⟨i, q1, q2, q3⟩ => (ih k).1 ⟨i, ?_, q2, q3⟩, fun q => (ih k).2 (fun ⟨i, q1, q2, q3⟩ => q ⟨i, by omega, q2, q3⟩)⟩
        have : i ≠ c := fun e1 => hk (by rw [← q3, e1])
        omega
    · rw [if_neg hh]
      refine ⟨fun ⟨i, q1, q2, q3⟩ => (ih k).1 ⟨i, ?_, q2, q3⟩, fun q => (ih k).2 (fun ⟨i, q1, q2, q3⟩ => q ⟨i, by omega, q2, q3⟩)⟩
      have : i ≠ c := fun e1 => hh (e1 ▸ q2)
      omega
theorem qz_ft_19 : ∀ c s : Nat, qz_ft g X c 19 s = if s = 7 then X 19 7 + qz_sum (fun i => if qz_hit X g i then X 0 6 - X 6 (X 20 i).toNatClampNeg else 0) c else X 19 s := by
  intro c
  induction c with
  | zero =>
    intro s
    show X 19 s = if s = 7 then X 19 7 + 0 else X 19 s
    split
    · rename_i q; rw [q, Int32.add_zero]
    · rfl
  | succ c ih =>
    intro s
    have e1 : qz_sum (fun i => if qz_hit X g i then X 0 6 - X 6 (X 20 i).toNatClampNeg else 0) (c + 1) = qz_sum (fun i => if qz_hit X g i then X 0 6 - X 6 (X 20 i).toNatClampNeg else 0) c + (if qz_hit X g c then X 0 6 - X 6 (X 20 c).toNatClampNeg else 0) := rfl
    rw [e1, qz_ft_s]
    by_cases hh : qz_hit X g c
    · rw [if_pos hh, if_pos hh, qz_up]
      by_cases hs : s = 7
      · rw [hs, qz_us, ih, if_pos rfl, if_pos rfl, Int32.add_assoc]
      · rw [qz_uo hs, ih, if_neg hs, if_neg hs]
    · rw [if_neg hh, if_neg hh, Int32.add_zero]
      exact ih s
theorem qz_fin_l (h18 : X 1 8 = nI n) (hn : n ≤ 150) (ho : ∀ c : Nat, c < 12 → X 20 c = -5 ∨ ∃ k : Nat, k < n ∧ X 20 c = nI k) : ∀ fuel c : Nat, c ≤ 12 → 12 - c < fuel → f_X3_finishWriting_52 N fuel g (qz_sum (fun i => if qz_hit X g i then 1 else 0) c) (nI c) (qz_ft g X c) = f_X3_finishWriting_140 N (qz_sum (fun i => if qz_hit X g i then 1 else 0) 12) (qz_ft g X 12) := by
  intro fuel
  induction fuel with
  | zero => intro c _ h; omega
  | succ F ih =>
    intro c hc hF
    rw [f_X3_finishWriting_52, show (12 : Int32) = nI 12 from rfl]
    by_cases e1 : c = 12
    · subst e1
      rw [if_pos (nI_le (Nat.le_refl _) (by omega))]
    · rw [if_neg (nI_ge (by omega) (by omega)), qz_gd (qz_in (by omega) (by omega))]
      simp only [nI_clamp (show c < 2 ^ 31 by omega)]
      rw [qz_nm, qz_ft_c]
      have hi := ih (c + 1) (by omega) (by omega)
      have e2 : qz_sum (fun i => if qz_hit X g i then 1 else 0) (c + 1) = qz_sum (fun i => if qz_hit X g i then 1 else 0) c + (if qz_hit X g c then 1 else 0) := rfl
      rw [e2, qz_ft_s] at hi
      rcases ho c (by omega) with h1 | ⟨k, hk, h1⟩
      · rw [if_pos h1, qz_nm, nI_1]
        rw [if_neg (fun q => q.1 h1), if_neg (fun q => q.1 h1), Int32.add_zero] at hi
        exact hi
      · have h5 : ¬ X 20 c = -5 := by rw [h1]; exact qz_n5 (by omega)
        have r1 : qz_ft g X c 1 8 = nI n := by rw [qz_ft_row (by decide) (by decide) (by decide) (by decide)]; exact h18
        rw [if_neg h5, h1, qz_groupOf r1 hk hn, qz_bi, qz_ft_row (i := 8) (by decide) (by decide) (by decide) (by decide)]
        by_cases h2 : X 8 k = g
        · have hh : qz_hit X g c := ⟨h5, by rw [h1, nI_clamp (by omega)]; exact h2⟩
          rw [if_pos hh, if_pos hh, h1, nI_clamp (by omega)] at hi
          rw [if_pos h2, qz_answer r1 hk hn, qz_bv, qz_gd (qz_in (by omega) (by omega)), qz_nm]
          rw [qz_rdc (show (7 : Int32) = nI 7 from rfl) (show 7 < 8 by omega)]
          rw [qz_submitTimeOf (n := n) (by rw [qz_un _ _ (by decide), qz_un _ _ (by decide), qz_un _ _ (by decide)]; exact r1) hk hn, qz_bi, qz_nm, qz_nm, qz_gd (qz_in' (show (7 : Int32) = nI 7 from rfl) (show 7 < 8 by omega) (by omega)), qz_nm, qz_nm, qz_nm, nI_1, qz_cl' (show (7 : Int32) = nI 7 from rfl) (by omega)]
          simp only [qz_un _ _ (show (0 : Nat) ≠ 20 by decide), qz_un _ _ (show (0 : Nat) ≠ 7 by decide), qz_un _ _ (show (0 : Nat) ≠ 5 by decide), qz_un _ _ (show (6 : Nat) ≠ 20 by decide), qz_un _ _ (show (6 : Nat) ≠ 7 by decide), qz_un _ _ (show (6 : Nat) ≠ 5 by decide), qz_un _ _ (show (19 : Nat) ≠ 20 by decide), qz_un _ _ (show (19 : Nat) ≠ 7 by decide), qz_un _ _ (show (19 : Nat) ≠ 5 by decide), qz_un _ _ (show (20 : Nat) ≠ 7 by decide), qz_un _ _ (show (20 : Nat) ≠ 5 by decide), qz_ft_row (g := g) (X := X) (i := 0) (by decide) (by decide) (by decide) (by decide), qz_ft_row (g := g) (X := X) (i := 6) (by decide) (by decide) (by decide) (by decide)]
          exact hi
        · have hh : ¬ qz_hit X g c := fun q => h2 (by have := q.2; rwa [h1, nI_clamp (by omega)] at this)
          rw [if_neg hh, if_neg hh, Int32.add_zero] at hi
          rw [if_neg h2, qz_nm, nI_1]
          exact hi
-- the model answers the members
def qz_as (g : Int32) (k : Nat) (y : Nat → Int32) : Nat → Int32 := if qz_mb y k g ∧ y (16 + 8 * k + 3) = 3 then upd (upd (upd y (16 + 8 * k + 3) 4) (16 + 8 * k + 5) (y 0)) 15 (y 15 + (y 0 - y (16 + 8 * k + 4))) else y
def qz_an (g : Int32) (y : Nat → Int32) : Nat → Nat → Int32
  | 0 => y
  | k + 1 => qz_as g k (qz_an g y k)
theorem qz_an_o {a : Nat} (h : a ≠ 15 ∧ (a < 16 ∨ ((a - 16) % 8 ≠ 3 ∧ (a - 16) % 8 ≠ 5))) : ∀ k : Nat, qz_an g y k a = y a
  | 0 => rfl
  | k + 1 => by
    show qz_as g k (qz_an g y k) a = y a
    unfold qz_as
    split
    · rw [qz_uo h.1, qz_uo (by omega), qz_uo (by omega)]
      exact qz_an_o h k
    · exact qz_an_o h k
theorem qz_an_g {a : Nat} : ∀ k : Nat, 16 + 8 * k ≤ a → qz_an g y k a = y a
  | 0, _ => rfl
  | k + 1, h => by
    show qz_as g k (qz_an g y k) a = y a
    unfold qz_as
    split
    · rw [qz_uo (by omega), qz_uo (by omega), qz_uo (by omega)]
      exact qz_an_g k (by omega)
    · exact qz_an_g k (by omega)
abbrev qz_C (y : Nat → Int32) (g : Int32) (k : Nat) : Prop := qz_mb y k g ∧ y (16 + 8 * k + 3) = 3
theorem qz_an_s (k : Nat) : qz_an g y (k + 1) = if qz_C y g k then upd (upd (upd (qz_an g y k) (16 + 8 * k + 3) 4) (16 + 8 * k + 5) (y 0)) 15 (qz_an g y k 15 + (y 0 - y (16 + 8 * k + 4))) else qz_an g y k := by
  show qz_as g k (qz_an g y k) = _
  unfold qz_as
  simp only [qz_mb, qz_C]
  simp only [qz_an_o (g := g) (y := y) (show 16 + 8 * k + 6 ≠ 15 ∧ (16 + 8 * k + 6 < 16 ∨ ((16 + 8 * k + 6 - 16) % 8 ≠ 3 ∧ (16 + 8 * k + 6 - 16) % 8 ≠ 5)) by omega) k, qz_an_o (g := g) (y := y) (show 16 + 8 * k + 7 ≠ 15 ∧ (16 + 8 * k + 7 < 16 ∨ ((16 + 8 * k + 7 - 16) % 8 ≠ 3 ∧ (16 + 8 * k + 7 - 16) % 8 ≠ 5)) by omega) k, qz_an_g (g := g) (y := y) k (show 16 + 8 * k ≤ 16 + 8 * k + 3 by omega), qz_an_o (g := g) (y := y) (show 0 ≠ 15 ∧ (0 < 16 ∨ ((0 - 16) % 8 ≠ 3 ∧ (0 - 16) % 8 ≠ 5)) by omega) k, qz_an_o (g := g) (y := y) (show 16 + 8 * k + 4 ≠ 15 ∧ (16 + 8 * k + 4 < 16 ∨ ((16 + 8 * k + 4 - 16) % 8 ≠ 3 ∧ (16 + 8 * k + 4 - 16) % 8 ≠ 5)) by omega) k]
theorem qz_an_35 : ∀ m k : Nat, qz_an g y m (16 + 8 * k + 3) = (if k < m ∧ qz_C y g k then 4 else y (16 + 8 * k + 3)) ∧ qz_an g y m (16 + 8 * k + 5) = (if k < m ∧ qz_C y g k then y 0 else y (16 + 8 * k + 5)) := by
  intro m
  induction m with
  | zero => intro k; rw [if_neg (fun q => absurd q.1 (by omega)), if_neg (fun q => absurd q.1 (by omega))]; exact ⟨rfl, rfl⟩
  | succ m ih =>
    intro k
    rw [qz_an_s]
    by_cases hm : qz_C y g m
    · rw [if_pos hm, qz_uo (by omega), qz_uo (by omega), qz_uo (show 16 + 8 * k + 5 ≠ 15 by omega)]
      by_cases hk : k = m
      · rw [hk, qz_us, qz_us, if_pos ⟨by omega, hm⟩, if_pos ⟨by omega, hm⟩]
        exact ⟨rfl, rfl⟩
      · rw [qz_uo (by omega), qz_uo (by omega), qz_uo (by omega), (ih k).1, (ih k).2]
        by_cases hq : k < m ∧ qz_C y g k
        · rw [if_pos hq, if_pos hq, if_pos ⟨by omega, hq.2⟩, if_pos ⟨by omega, hq.2⟩]
          exact ⟨rfl, rfl⟩
        · rw [if_neg hq, if_neg hq, if_neg (fun q => hq ⟨by omega, q.2⟩), if_neg (fun q => hq ⟨by omega, q.2⟩)]
          exact ⟨rfl, rfl⟩
    · rw [if_neg hm, (ih k).1, (ih k).2]
      by_cases hq : k < m ∧ qz_C y g k
      · rw [if_pos hq, if_pos hq, if_pos ⟨by omega, hq.2⟩, if_pos ⟨by omega, hq.2⟩]
        exact ⟨rfl, rfl⟩
      · have hq2 : ¬ (k < m + 1 ∧ qz_C y g k) := fun q => by
          by_cases hk : k = m
          · exact hm (hk ▸ q.2)
          · exact hq ⟨by omega, q.2⟩
        rw [if_neg hq, if_neg hq, if_neg hq2, if_neg hq2]
        exact ⟨rfl, rfl⟩
theorem qz_an_15 : ∀ m : Nat, qz_an g y m 15 = y 15 + qz_sum (fun k => if qz_C y g k then y 0 - y (16 + 8 * k + 4) else 0) m := by
  intro m
  induction m with
  | zero => exact (Int32.add_zero _).symm
  | succ m ih =>
    have e1 : qz_sum (fun k => if qz_C y g k then y 0 - y (16 + 8 * k + 4) else 0) (m + 1) = qz_sum (fun k => if qz_C y g k then y 0 - y (16 + 8 * k + 4) else 0) m + (if qz_C y g m then y 0 - y (16 + 8 * m + 4) else 0) := rfl
    rw [e1, qz_an_s]
    by_cases hm : qz_C y g m
    · rw [if_pos hm, if_pos hm, qz_us, ih, Int32.add_assoc]
    · rw [if_neg hm, if_neg hm, Int32.add_zero, ih]
theorem qz_ans_l (h6 : y 6 = nI n) (hn : n ≤ 150) : ∀ fuel k : Nat, k ≤ n → n - k < fuel → f_X8_answerAll_4 N fuel g (qz_sum (fun i => if qz_C y g i then 1 else 0) k) (nI k) (m_up Z 1 (qz_an g y k)) = f_X8_answerAll_85 N (qz_sum (fun i => if qz_C y g i then 1 else 0) n) (m_up Z 1 (qz_an g y n)) := by
  intro fuel
  induction fuel with
  | zero => intro k _ h; omega
  | succ F ih =>
    intro k hk hF
    rw [f_X8_answerAll_4, qz_rd (v := 6) (w := 6) rfl (by omega), qz_an_o (by omega), h6]
    by_cases e1 : k = n
    · subst e1
      rw [if_pos (nI_le (Nat.le_refl _) (by omega))]
    · rw [if_neg (nI_ge (by omega) (by omega)), qz_isIn (by omega), qz_bi]
      have hi := ih (k + 1) (by omega) (by omega)
      have e2 : qz_sum (fun i => if qz_C y g i then 1 else 0) (k + 1) = qz_sum (fun i => if qz_C y g i then 1 else 0) k + (if qz_C y g k then 1 else 0) := rfl
      rw [e2, qz_an_s] at hi
      have hmb : qz_mb (qz_an g y k) k g ↔ qz_mb y k g := by
        simp only [qz_mb]
        rw [qz_an_o (by omega), qz_an_o (by omega)]
      by_cases hm : qz_mb y k g
      · rw [if_pos (hmb.mpr hm), if_neg (by decide), qz_of (v := 3) (w := 3) rfl (by omega) (by omega), qz_bi, qz_an_g k (by omega)]
        by_cases h3 : y (16 + 8 * k + 3) = 3
        · rw [if_pos ⟨hm, h3⟩, if_pos ⟨hm, h3⟩] at hi
          rw [if_pos h3, qz_setOf (v := 3) (w := 3) rfl (by omega) (by omega), qz_bv, qz_rd (v := 0) (w := 0) rfl (by omega), qz_uo (by omega), qz_an_o (a := 0) (by omega), qz_setOf (v := 5) (w := 5) rfl (by omega) (by omega), qz_bv, qz_rd (v := 15) (w := 15) rfl (by omega), qz_rd (v := 0) (w := 0) rfl (by omega), qz_of (v := 4) (w := 4) rfl (by omega) (by omega), qz_bi, qz_nm, qz_nm, qz_wr (v := 15) (w := 15) rfl (by omega), qz_nm, qz_nm, nI_1, qz_uo (show 15 ≠ 16 + 8 * k + 5 by omega), qz_uo (show 15 ≠ 16 + 8 * k + 3 by omega), qz_uo (show 0 ≠ 16 + 8 * k + 5 by omega), qz_uo (show 0 ≠ 16 + 8 * k + 3 by omega), qz_an_o (a := 0) (by omega), qz_uo (show 16 + 8 * k + 4 ≠ 16 + 8 * k + 5 by omega), qz_uo (show 16 + 8 * k + 4 ≠ 16 + 8 * k + 3 by omega), qz_an_o (a := 16 + 8 * k + 4) (by omega)]
          exact hi
        · rw [if_neg (fun q => h3 q.2), if_neg (fun q => h3 q.2), Int32.add_zero] at hi
          rw [if_neg h3, qz_nm, nI_1]
          exact hi
      · rw [if_neg (fun q => hm q.1), if_neg (fun q => hm q.1), Int32.add_zero] at hi
        rw [if_neg (fun q => hm (hmb.mp q)), if_pos rfl, qz_nm, nI_1]
        exact hi
theorem qz_answerAll (h6 : y 6 = nI n) (hn : n ≤ 150) (hN : 200 ≤ N) : f_X8_answerAll N g (m_up Z 1 y) = some (qz_sum (fun i => if qz_C y g i then 1 else 0) n, m_up Z 1 (upd (qz_an g y n) 10 (y 10 + qz_sum (fun i => if qz_C y g i then 1 else 0) n))) := by
  have h := qz_ans_l (N := N) (Z := Z) (g := g) h6 hn N 0 (by omega) (by omega)
  have e1 : f_X8_answerAll N g (m_up Z 1 y) = f_X8_answerAll_85 N (qz_sum (fun i => if qz_C y g i then 1 else 0) n) (m_up Z 1 (qz_an g y n)) := h
  rw [e1]
  unfold f_X8_answerAll_85
  rw [qz_rd (v := 10) (w := 10) rfl (by omega), qz_an_o (by omega), qz_nm, qz_wr (v := 10) (w := 10) rfl (by omega)]
end QF
