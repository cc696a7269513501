-- the law's rows beside the model's row
section QL1
variable {N n p g k j : Nat} {X X2 : XT} {y y2 : Nat → Int32} {a b c d : Int32}
def qc_k (a b c d : Int32) (y : Nat → Int32) (k : Nat) : Prop := ∃ cl rc u w gr me : Nat, cl < 12 ∧ rc ≤ 8 ∧ u ≤ 1 ∧ w ≤ 6 ∧ gr < 48 ∧ me ≤ 1 ∧ y (16 + 8 * k + 0) = nI cl ∧ y (16 + 8 * k + 1) = nI rc ∧ y (16 + 8 * k + 2) = nI u ∧ y (16 + 8 * k + 3) = nI w ∧ y (16 + 8 * k + 6) = nI gr ∧ y (16 + 8 * k + 7) = nI me ∧ a = nI (cl + 16 * rc + 256 * u + 512 * w) ∧ b = y (16 + 8 * k + 4) ∧ c = y (16 + 8 * k + 5) ∧ d = nI (2 * gr + (1 - me))
def qg_j (a b : Int32) (y : Nat → Int32) (j : Nat) : Prop := ∃ s r : Nat, 1 ≤ s ∧ s ≤ 5 ∧ r ≤ 3 ∧ y (1216 + 4 * j + 0) = nI s ∧ y (1216 + 4 * j + 2) = nI r ∧ a = nI (s + 8 * r) ∧ (s = 1 → r = 0 ∧ b = y (1216 + 4 * j + 1))
def qL_q (q y : Nat → Int32) (n p : Nat) : Prop := q 0 = y 0 ∧ q 1 = y 1 ∧ q 2 = y 2 ∧ q 3 = y 3 ∧ q 4 = y 4 ∧ q 5 = y 5 ∧ q 6 = nI n ∧ y 6 = nI n ∧ q 7 = nI p ∧ y 7 = nI p ∧ q 8 = y 8 ∧ q 9 = y 9 ∧ q 11 = y 10 ∧ q 12 = y 11 ∧ q 13 = y 12 ∧ q 14 = y 13 ∧ q 15 = y 14 ∧ q 16 = y 15 ∧ ¬ y 3 < 0 ∧ ¬ y 5 < 0
def qL_t (q y : Nat → Int32) (p : Nat) : Prop := ∀ j : Nat, j < p → y 9 = nI j → q 10 = y (1216 + 4 * j + 3)
abbrev qL_c (X : XT) (y : Nat → Int32) (n : Nat) : Prop := ∀ k : Nat, k < n → qc_k (X 132 k) (X 133 k) (X 134 k) (X 135 k) y k
abbrev qL_g (X : XT) (y : Nat → Int32) (p : Nat) : Prop := ∀ j : Nat, j < p → qg_j (X 136 j) (X 137 j) y j
def qL (X : XT) (y : Nat → Int32) (n p : Nat) : Prop := n ≤ 46 ∧ p ≤ 46 ∧ qL_q (X 131) y n p ∧ qL_t (X 131) y p ∧ qL_c X y n ∧ qL_g X y p
/-- rows of the class stay -/
def qlo (X X2 : XT) : Prop := ∀ i : Nat, i < 131 → X2 i = X i
theorem qlo_tr {X3 : XT} (h1 : qlo X X2) (h2 : qlo X2 X3) : qlo X X3 := fun i hi => (h2 i hi).trans (h1 i hi)
theorem qlo_rf : qlo X X := fun _ _ => rfl
theorem qlo_up {i : Nat} {f : Nat → Int32} (h : 131 ≤ i) : qlo X (m_up X i f) := fun k hk => qz_un _ _ (by omega)
theorem qc_what (h : qc_k a b c d y k) : a >>> ((9 : Int32) &&& 31) = y (16 + 8 * k + 3) := by
  obtain ⟨cl, rc, u, w, gr, me, h1, h2, h3, h4, h5, h6, e0, e1, e2, e3, e6, e7, ea, eb, ec, ed⟩ := h
  rw [ea, e3, qy_what (by omega)]
  congr 1
  omega
theorem qc_cl (h : qc_k a b c d y k) : a &&& 15 = y (16 + 8 * k + 0) := by
  obtain ⟨cl, rc, u, w, gr, me, h1, h2, h3, h4, h5, h6, e0, e1, e2, e3, e6, e7, ea, eb, ec, ed⟩ := h
  rw [ea, e0, qy_cl (by omega)]
  congr 1
  omega
theorem qc_rec (h : qc_k a b c d y k) : (a >>> ((4 : Int32) &&& 31)) &&& 15 = y (16 + 8 * k + 1) := by
  obtain ⟨cl, rc, u, w, gr, me, h1, h2, h3, h4, h5, h6, e0, e1, e2, e3, e6, e7, ea, eb, ec, ed⟩ := h
  rw [ea, e1, qy_recs (by omega)]
  congr 1
  omega
theorem qc_urg (h : qc_k a b c d y k) : (a >>> ((8 : Int32) &&& 31)) &&& 1 = y (16 + 8 * k + 2) := by
  obtain ⟨cl, rc, u, w, gr, me, h1, h2, h3, h4, h5, h6, e0, e1, e2, e3, e6, e7, ea, eb, ec, ed⟩ := h
  rw [ea, e2, qy_urg (by omega)]
  congr 1
  omega
theorem qc_gr (h : qc_k a b c d y k) : d / 2 = y (16 + 8 * k + 6) := by
  obtain ⟨cl, rc, u, w, gr, me, h1, h2, h3, h4, h5, h6, e0, e1, e2, e3, e6, e7, ea, eb, ec, ed⟩ := h
  rw [ed, e6, show (2 : Int32) = nI 2 from rfl, pk_div (by omega) (by omega) (by omega)]
  congr 1
  omega
theorem qc_mb (h : qc_k a b c d y k) (hg : g < 48) : d = nI (2 * g) ↔ qz_mb y k (nI g) := by
  obtain ⟨cl, rc, u, w, gr, me, h1, h2, h3, h4, h5, h6, e0, e1, e2, e3, e6, e7, ea, eb, ec, ed⟩ := h
  unfold qz_mb
  rw [ed, e6, e7, nI_eq (by omega) (by omega), nI_eq (by omega) (by omega), show (1 : Int32) = nI 1 from rfl, nI_eq (by omega) (by omega)]
  omega
theorem qc_c (hy : ∀ w : Nat, w < 8 → y2 (16 + 8 * k + w) = y (16 + 8 * k + w)) (h : qc_k a b c d y k) : qc_k a b c d y2 k := by
  obtain ⟨cl, rc, u, w, gr, me, h1, h2, h3, h4, h5, h6, e0, e1, e2, e3, e6, e7, ea, eb, ec, ed⟩ := h
  refine ⟨cl, rc, u, w, gr, me, h1, h2, h3, h4, h5, h6, ?_, ?_, ?_, ?_, ?_, ?_, ea, ?_, ?_, ed⟩
  · rw [hy 0 (by omega)]; exact e0
  · rw [hy 1 (by omega)]; exact e1
  · rw [hy 2 (by omega)]; exact e2
  · rw [hy 3 (by omega)]; exact e3
  · rw [hy 6 (by omega)]; exact e6
  · rw [hy 7 (by omega)]; exact e7
  · rw [hy 4 (by omega)]; exact eb
  · rw [hy 5 (by omega)]; exact ec
theorem qc_bec {v : Nat} (hv : v ≤ 6) (h3 : y2 (16 + 8 * k + 3) = nI v) (hy : ∀ w : Nat, w < 8 → w ≠ 3 → y2 (16 + 8 * k + w) = y (16 + 8 * k + w)) (h : qc_k a b c d y k) : qc_k (ql_bec a (nI v)) b c d y2 k := by
  obtain ⟨cl, rc, u, w, gr, me, h1, h2, h3', h4, h5, h6, e0, e1, e2, e3, e6, e7, ea, eb, ec, ed⟩ := h
  refine ⟨cl, rc, u, v, gr, me, h1, h2, h3', hv, h5, h6, ?_, ?_, ?_, h3, ?_, ?_, ?_, ?_, ?_, ed⟩
  · rw [hy 0 (by omega) (by omega)]; exact e0
  · rw [hy 1 (by omega) (by omega)]; exact e1
  · rw [hy 2 (by omega) (by omega)]; exact e2
  · rw [hy 6 (by omega) (by omega)]; exact e6
  · rw [hy 7 (by omega) (by omega)]; exact e7
  · rw [ea, qy_bec (by omega) (by omega)]
    congr 1
    omega
  · rw [hy 4 (by omega) (by omega)]; exact eb
  · rw [hy 5 (by omega) (by omega)]; exact ec
theorem qg_7 (h : qg_j a b y j) : a &&& 7 = y (1216 + 4 * j + 0) := by
  obtain ⟨s, r, h1, h2, h3, e0, e2, ea, _⟩ := h
  rw [ea, e0, qy_g7 (by omega)]
  congr 1
  omega
theorem qg_3 (h : qg_j a b y j) : a >>> ((3 : Int32) &&& 31) = y (1216 + 4 * j + 2) := by
  obtain ⟨s, r, h1, h2, h3, e0, e2, ea, _⟩ := h
  rw [ea, e2, qy_g3 (by omega)]
  congr 1
  omega
theorem qg_c (hy : ∀ w : Nat, w < 3 → y2 (1216 + 4 * j + w) = y (1216 + 4 * j + w)) (h : qg_j a b y j) : qg_j a b y2 j := by
  obtain ⟨s, r, h1, h2, h3, e0, e2, ea, e1⟩ := h
  refine ⟨s, r, h1, h2, h3, ?_, ?_, ea, fun q => ?_⟩
  · rw [hy 0 (by omega)]; exact e0
  · rw [hy 2 (by omega)]; exact e2
  · rw [hy 1 (by omega)]; exact e1 q
-- what the law's loops say in the model's words
theorem qL_mem (hc : qL_c X y n) (hg : g < 48) : ∀ m : Nat, m ≤ n → ∃ u v : Nat, u ≤ m ∧ v ≤ 8 * u ∧ qz_mem y m (nI g) = nI u ∧ qz_rec y m (nI g) = nI v ∧ ql_mem X g m = nI (u + 1000 * v) := by
  intro m
  induction m with
  | zero => intro _; exact ⟨0, 0, by omega, by omega, rfl, rfl, rfl⟩
  | succ m ih =>
    intro hm
    obtain ⟨u, v, h1, h2, e1, e2, e3⟩ := ih (by omega)
    have hk := hc m (by omega)
    have hb := qc_mb hk hg
    have hr := qc_rec hk
    have s1 : qz_mem y (m + 1) (nI g) = qz_mem y m (nI g) + (if qz_mb y m (nI g) then 1 else 0) := rfl
    have s2 : qz_rec y (m + 1) (nI g) = qz_rec y m (nI g) + (if qz_mb y m (nI g) then y (16 + 8 * m + 1) else 0) := rfl
    have s3 : ql_mem X g (m + 1) = ql_mem X g m + (if X 135 m = nI (2 * g) then 1 + 1000 * ((X 132 m >>> ((4 : Int32) &&& 31)) &&& 15) else 0) := rfl
    by_cases q : qz_mb y m (nI g)
    · rw [if_pos q] at s1 s2
      rw [if_pos (hb.mpr q), hr] at s3
      obtain ⟨cl, rc, _, _, _, _, _, h8, _, _, _, _, _, er, _⟩ := hk
      refine ⟨u + 1, v + rc, by omega, by omega, ?_, ?_, ?_⟩
      · rw [s1, e1, nI_1]
      · rw [s2, e2, er, nI_add]
      · rw [s3, e3, er, show (1000 : Int32) = nI 1000 from rfl, pk_mul, show (1 : Int32) = nI 1 from rfl, nI_add, nI_add]
        congr 1
        omega
    · rw [if_neg q, Int32.add_zero] at s1 s2
      rw [if_neg (fun z => q (hb.mp z)), Int32.add_zero] at s3
      exact ⟨u, v, by omega, by omega, s1.trans e1, s2.trans e2, s3.trans e3⟩
theorem qL_first (hc : qL_c X y n) (hg : g < 48) : qz_at (fun i => X 135 i = nI (2 * g)) n 0 0 = qz_at (fun i => qz_mb y i (nI g)) n 0 0 :=
  qz_at_c n 0 0 (fun i _ hi => qc_mb (hc i (by omega)) hg)
theorem qL_open (hc : qL_c X y n) {v : Int32} : qz_at (fun i => X 132 i &&& 15 = v ∧ ¬ 4 ≤ X 132 i >>> ((9 : Int32) &&& 31)) n 0 0 = qz_at (fun i => y (16 + 8 * i + 0) = v ∧ ¬ 4 ≤ y (16 + 8 * i + 3)) n 0 0 :=
  qz_at_c n 0 0 (fun i _ hi => by rw [qc_cl (hc i (by omega)), qc_what (hc i (by omega))])
theorem ql_is_mb (hc : qL_c X y n) (hg : g < 48) (hk : k < n) : ql_is X g k ↔ (qz_mb y k (nI g) ∧ ¬ 4 ≤ y (16 + 8 * k + 3)) := by
  unfold ql_is
  rw [qc_mb (hc k hk) hg, qc_what (hc k hk)]
theorem qL_tc (hc : qL_c X y n) (hg : g < 48) : ql_tc X g n = qz_turns y n (nI g) := by
  refine qz_sum_c n (fun k hk => ?_)
  have q := ql_is_mb hc hg hk
  by_cases h : ql_is X g k
  · rw [if_pos h, if_pos (q.mp h)]
  · rw [if_neg h, if_neg (fun z => h (q.mpr z))]
theorem qL_tr {v : Nat} (hv : v ≤ 6) (hc : qL_c X y n) (hg : g < 48) (hk : k < n) : qc_k (ql_tr X g (nI v) n k) (X 133 k) (X 134 k) (X 135 k) (qz_turn y n (nI g) (nI v)) k := by
  have q := ql_is_mb hc hg hk
  have ho : ∀ w : Nat, w < 8 → w ≠ 3 → qz_turn y n (nI g) (nI v) (16 + 8 * k + w) = y (16 + 8 * k + w) := fun w h1 h2 => qz_turn_o (by omega)
  by_cases h : ql_is X g k
  · have e : ql_tr X g (nI v) n k = ql_bec (X 132 k) (nI v) := by
      unfold ql_tr
      rw [if_pos ⟨hk, h⟩]
    rw [e]
    exact qc_bec hv (by rw [qz_turn_3, if_pos ⟨hk, q.mp h⟩]) ho (hc k hk)
  · have e : ql_tr X g (nI v) n k = X 132 k := by
      unfold ql_tr
      rw [if_neg (fun z => h z.2)]
    rw [e]
    refine qc_c (fun w hw => ?_) (hc k hk)
    by_cases h3 : w = 3
    · subst h3
      rw [qz_turn_3, if_neg (fun z => h (q.mpr z.2))]
    · exact ho w hw h3
end QL1
