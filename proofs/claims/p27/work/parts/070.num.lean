-- the pure part: numbers, sums, the first rows of the model
theorem qz_nm {α β : Type} (v : α) (k : α → β) : m_nm v k = k v := rfl
theorem qz_gd {α : Type} {c : Prop} [Decidable c] {k : Option α} (h : c) : m_gd c k = k := if_pos h
theorem qz_bi {α : Type} (r : Int32) (X : XT) (k : Int32 → XT → Option α) : m_bi (some (r, X)) k = k r X := rfl
theorem qz_bv {α : Type} (X : XT) (k : XT → Option α) : m_bv (some X) k = k X := rfl
theorem qz_up (Z : XT) (i : Nat) (f : Nat → Int32) : m_up Z i f i = f := if_pos rfl
theorem qz_un (Z : XT) {i j : Nat} (f : Nat → Int32) (h : j ≠ i) : m_up Z i f j = Z j := if_neg h
theorem qz_uu (Z : XT) (i : Nat) (f g : Nat → Int32) : m_up (m_up Z i f) i g = m_up Z i g := by
  funext j
  simp only [m_up]
  split <;> rfl
theorem qz_ue (Z : XT) (i : Nat) : m_up Z i (Z i) = Z := by
  funext j
  simp only [m_up]
  split
  · rename_i h; rw [h]
  · rfl
theorem qz_us {f : Nat → Int32} {k : Nat} {x : Int32} : upd f k x k = x := if_pos rfl
theorem qz_uo {f : Nat → Int32} {k j : Nat} {x : Int32} (h : j ≠ k) : upd f k x j = f j := if_neg h
theorem qz_in {k n : Nat} (h : k < n) (hn : n < 2 ^ 31) : m_in (nI k) n := nI_in h hn
theorem qz_n5 {k : Nat} (h : k < 2 ^ 31) : ¬ nI k = (-5 : Int32) := by
  intro e
  have h1 := nI_toInt h
  rw [e] at h1
  have : (-5 : Int32).toInt = -5 := by decide
  omega
theorem qz_5n {k : Nat} (h : k < 2 ^ 31) : ¬ (-5 : Int32) = nI k := fun e => qz_n5 h e.symm
theorem qz_ix8 (k w : Nat) : (16 : Int32) + (8 : Int32) * nI k + nI w = nI (16 + 8 * k + w) := by
  rw [show (16 : Int32) = nI 16 from rfl, show (8 : Int32) = nI 8 from rfl, pk_mul, nI_add, nI_add]
theorem qz_ix4 (k w : Nat) : (1216 : Int32) + (4 : Int32) * nI k + nI w = nI (1216 + 4 * k + w) := by
  rw [show (1216 : Int32) = nI 1216 from rfl, show (4 : Int32) = nI 4 from rfl, pk_mul, nI_add, nI_add]
-- the model's getters and setters
theorem qz_of {N k w : Nat} {Z : XT} {y : Nat → Int32} {v : Int32} (hv : v = nI w) (hk : k < 150) (hw : w < 8) : f_X8_of N (nI k) v (m_up Z 1 y) = some (y (16 + 8 * k + w), m_up Z 1 y) := by
  subst hv
  simp only [f_X8_of, qz_nm, qz_ix8]
  rw [qz_gd (qz_in (by omega) (by omega)), nI_clamp (by omega), qz_up]
theorem qz_setOf {N k w : Nat} {Z : XT} {y : Nat → Int32} {v x : Int32} (hv : v = nI w) (hk : k < 150) (hw : w < 8) : f_X8_setOf N (nI k) v x (m_up Z 1 y) = some (m_up Z 1 (upd y (16 + 8 * k + w) x)) := by
  subst hv
  simp only [f_X8_setOf, qz_nm, qz_ix8]
  rw [qz_gd (qz_in (by omega) (by omega)), nI_clamp (by omega), qz_up, qz_uu]
theorem qz_ofG {N k w : Nat} {Z : XT} {y : Nat → Int32} {v : Int32} (hv : v = nI w) (hk : k < 150) (hw : w < 4) : f_X8_ofGroup N (nI k) v (m_up Z 1 y) = some (y (1216 + 4 * k + w), m_up Z 1 y) := by
  subst hv
  simp only [f_X8_ofGroup, qz_nm, qz_ix4]
  rw [qz_gd (qz_in (by omega) (by omega)), nI_clamp (by omega), qz_up]
theorem qz_setG {N k w : Nat} {Z : XT} {y : Nat → Int32} {v x : Int32} (hv : v = nI w) (hk : k < 150) (hw : w < 4) : f_X8_setGroup N (nI k) v x (m_up Z 1 y) = some (m_up Z 1 (upd y (1216 + 4 * k + w) x)) := by
  subst hv
  simp only [f_X8_setGroup, qz_nm, qz_ix4]
  rw [qz_gd (qz_in (by omega) (by omega)), nI_clamp (by omega), qz_up, qz_uu]
/-- the place k of a row, where k is a known number -/
theorem qz_rd {α : Type} {Z : XT} {y : Nat → Int32} {v : Int32} {w : Nat} (hv : v = nI w) (hw : w < 1816) (k : Int32 → Option α) : (m_gd (m_in v 1816) (m_nm (m_up Z 1 y 1 v.toNatClampNeg) k)) = k (y w) := by
  subst hv
  rw [qz_gd (qz_in hw (by omega)), nI_clamp (by omega), qz_up]
  rfl
theorem qz_wr {α : Type} {Z : XT} {y : Nat → Int32} {v x : Int32} {w : Nat} (hv : v = nI w) (hw : w < 1816) (k : XT → Option α) : (m_gd (m_in v 1816) (m_nm (m_up (m_up Z 1 y) 1 (upd (m_up Z 1 y 1) v.toNatClampNeg x)) k)) = k (m_up Z 1 (upd y w x)) := by
  subst hv
  rw [qz_gd (qz_in hw (by omega)), nI_clamp (by omega), qz_up, qz_uu]
  rfl
-- sums
def qz_sum (f : Nat → Int32) : Nat → Int32
  | 0 => 0
  | n + 1 => qz_sum f n + f n
theorem qz_sum_c {f g : Nat → Int32} : ∀ n : Nat, (∀ k, k < n → f k = g k) → qz_sum f n = qz_sum g n
  | 0, _ => rfl
  | n + 1, h => by
    show qz_sum f n + f n = qz_sum g n + g n
    rw [qz_sum_c n (fun k hk => h k (by omega)), h n (by omega)]
theorem qz_sum_0 {f : Nat → Int32} : ∀ n : Nat, (∀ k, k < n → f k = 0) → qz_sum f n = 0
  | 0, _ => rfl
  | n + 1, h => by
    show qz_sum f n + f n = 0
    rw [qz_sum_0 n (fun k hk => h k (by omega)), h n (by omega)]
    rfl
theorem qz_sum_add {f g : Nat → Int32} : ∀ n : Nat, qz_sum (fun k => f k + g k) n = qz_sum f n + qz_sum g n
  | 0 => rfl
  | n + 1 => by
    show qz_sum (fun k => f k + g k) n + (f n + g n) = (qz_sum f n + f n) + (qz_sum g n + g n)
    rw [qz_sum_add n]
    grind
/-- one place alone -/
theorem qz_sum_1 {f : Nat → Int32} {i : Nat} : ∀ n : Nat, i < n → (∀ k, k < n → k ≠ i → f k = 0) → qz_sum f n = f i
  | 0, h, _ => absurd h (by omega)
  | n + 1, h, h0 => by
    show qz_sum f n + f n = f i
    by_cases hi : i = n
    · subst hi
      rw [qz_sum_0 i (fun k hk => h0 k (by omega) (by omega))]
      simp
    · rw [qz_sum_1 n (by omega) (fun k hk => h0 k (by omega)), h0 n (by omega) (fun e => hi e.symm)]
      simp
theorem qz_sum_swap (f : Nat → Nat → Int32) (m : Nat) : ∀ n : Nat, qz_sum (fun i => qz_sum (fun k => f i k) m) n = qz_sum (fun k => qz_sum (fun i => f i k) n) m
  | 0 => (qz_sum_0 m (fun _ _ => rfl)).symm
  | n + 1 => by
    show qz_sum (fun i => qz_sum (fun k => f i k) m) n + qz_sum (fun k => f n k) m = _
    rw [qz_sum_swap f m n, ← qz_sum_add]
    rfl
/-- the row changes at one place i -/
theorem qz_sum_u {f g : Nat → Int32} {i : Nat} {n : Nat} (hi : i < n) (h : ∀ k, k < n → k ≠ i → g k = f k) : qz_sum g n = qz_sum f n + (g i - f i) := by
  have e : qz_sum g n = qz_sum (fun k => f k + (g k - f k)) n := qz_sum_c n (fun k _ => by grind)
  rw [e, qz_sum_add, qz_sum_1 (f := fun k => g k - f k) n hi (fun k hk hne => by rw [h k hk hne]; grind)]
/-- clients against commits: o names for every client its one open commit -/
theorem qz_bij {o G : Nat → Int32} {Q : Nat → Prop} [DecidablePred Q] {cl : Nat → Nat} {m n : Nat} (hn : n < 2 ^ 31) (hcl : ∀ k, k < n → Q k → cl k < m) (ho : ∀ c, c < m → (o c = -5 ∧ ∀ k, k < n → Q k → cl k ≠ c) ∨ (∃ k, k < n ∧ Q k ∧ cl k = c ∧ o c = nI k ∧ ∀ i, i < n → Q i → cl i = c → i = k)) :
    qz_sum (fun c => if o c = -5 then 0 else G (o c).toNatClampNeg) m = qz_sum (fun k => if Q k then G k else 0) n := by
  have e1 : qz_sum (fun c => if o c = -5 then 0 else G (o c).toNatClampNeg) m = qz_sum (fun c => qz_sum (fun k => if Q k ∧ cl k = c then G k else 0) n) m := by
    refine qz_sum_c m (fun c hc => ?_)
    rcases ho c hc with ⟨h1, h2⟩ | ⟨k, h1, h2, h3, h4, h5⟩
    · show (if o c = -5 then 0 else G (o c).toNatClampNeg) = _
      rw [if_pos h1, qz_sum_0]
      intro k hk
      rw [if_neg]
      rintro ⟨a, b⟩
      exact h2 k hk a b
    · show (if o c = -5 then 0 else G (o c).toNatClampNeg) = _
      rw [h4, if_neg (qz_n5 (by omega)), nI_clamp (by omega), qz_sum_1 (i := k) n h1, if_pos ⟨h2, h3⟩]
      intro i hi hne
      rw [if_neg]
      rintro ⟨a, b⟩
      exact hne (h5 i hi a b)
  rw [e1, qz_sum_swap]
  refine qz_sum_c n (fun k hk => ?_)
  by_cases hq : Q k
  · rw [if_pos hq, qz_sum_1 (i := cl k) m (hcl k hk hq), if_pos ⟨hq, rfl⟩]
    intro i _ hne
    rw [if_neg]
    rintro ⟨_, b⟩
    exact hne b.symm
  · rw [if_neg hq, qz_sum_0]
    intro i _
    rw [if_neg]
    rintro ⟨a, _⟩
    exact hq a
-- the first, second, .. place that holds something
def qz_at (P : Nat → Prop) [DecidablePred P] : Nat → Nat → Nat → Int32
  | 0, _, _ => -5
  | d + 1, k, r => if P k then (if r = 0 then nI k else qz_at P d (k + 1) (r - 1)) else qz_at P d (k + 1) r
theorem qz_at_c {P Q : Nat → Prop} [DecidablePred P] [DecidablePred Q] : ∀ (d k r : Nat), (∀ i, k ≤ i → i < k + d → (P i ↔ Q i)) → qz_at P d k r = qz_at Q d k r
  | 0, _, _, _ => rfl
  | d + 1, k, r, h => by
    show (if P k then (if r = 0 then nI k else qz_at P d (k + 1) (r - 1)) else qz_at P d (k + 1) r) = (if Q k then (if r = 0 then nI k else qz_at Q d (k + 1) (r - 1)) else qz_at Q d (k + 1) r)
    rw [qz_at_c d (k + 1) (r - 1) (fun i h1 h2 => h i (by omega) (by omega)), qz_at_c d (k + 1) r (fun i h1 h2 => h i (by omega) (by omega))]
    by_cases hp : P k
    · rw [if_pos hp, if_pos ((h k (by omega) (by omega)).mp hp)]
    · rw [if_neg hp, if_neg (fun hq => hp ((h k (by omega) (by omega)).mpr hq))]
theorem qz_at_0 {P : Nat → Prop} [DecidablePred P] : ∀ (d k : Nat), (qz_at P d k 0 = -5 ∧ ∀ i, k ≤ i → i < k + d → ¬ P i) ∨ (∃ i, k ≤ i ∧ i < k + d ∧ P i ∧ qz_at P d k 0 = nI i ∧ ∀ i', k ≤ i' → i' < i → ¬ P i')
  | 0, _ => Or.inl ⟨rfl, fun i h1 h2 => absurd h1 (by omega)⟩
  | d + 1, k => by
    by_cases hp : P k
    · refine Or.inr ⟨k, Nat.le_refl _, by omega, hp, ?_, fun i' h1 h2 => absurd h1 (by omega)⟩
      show (if P k then (if 0 = 0 then nI k else _) else _) = _
      rw [if_pos hp, if_pos rfl]
    · have e : qz_at P (d + 1) k 0 = qz_at P d (k + 1) 0 := by
        show (if P k then _ else _) = _
        rw [if_neg hp]
      rw [e]
      rcases qz_at_0 (P := P) d (k + 1) with ⟨h1, h2⟩ | ⟨i, h1, h2, h3, h4, h5⟩
      · refine Or.inl ⟨h1, fun i a b => ?_⟩
        by_cases hi : i = k
        · subst hi; exact hp
        · exact h2 i (by omega) (by omega)
      · refine Or.inr ⟨i, by omega, by omega, h3, h4, fun i' a b => ?_⟩
        by_cases hi : i' = k
        · subst hi; exact hp
        · exact h5 i' (by omega) b
