-- the law beside the class: bits, places of its rows, its loops
section QY0
variable {N n p g : Nat} {X : XT} {w : Int32}
theorem qy_what {a : Nat} (h : a < 4096) : nI a >>> ((9 : Int32) &&& 31) = nI (a / 512) :=
  pk_shrN (by omega) ((9 : Int32) &&& 31) 9 (by decide +kernel)
theorem qy_recs {a : Nat} (h : a < 4096) : (nI a >>> ((4 : Int32) &&& 31)) &&& 15 = nI (a / 16 % 16) := by
  rw [pk_shrN (n := a) (by omega) ((4 : Int32) &&& 31) 4 (by decide +kernel)]
  exact pk_andN (by omega) 4 (by decide +kernel)
theorem qy_cl {a : Nat} (h : a < 4096) : nI a &&& 15 = nI (a % 16) := pk_andN (by omega) 4 (by decide +kernel)
theorem qy_urg {a : Nat} (h : a < 4096) : (nI a >>> ((8 : Int32) &&& 31)) &&& 1 = nI (a / 256 % 2) := by
  rw [pk_shrN (n := a) (by omega) ((8 : Int32) &&& 31) 8 (by decide +kernel)]
  exact pk_andN (by omega) 1 (by decide +kernel)
theorem qy_low {a : Nat} (h : a < 4096) : nI a &&& 511 = nI (a % 512) := pk_andN (by omega) 9 (by decide +kernel)
theorem qy_orN {a b : Nat} (hb : b < 512) (ha : a < 8) : nI b ||| nI (a * 512) = nI (b + 512 * a) := by
  apply Int32.toBitVec_inj.1
  show BitVec.ofNat 32 b ||| BitVec.ofNat 32 (a * 512) = BitVec.ofNat 32 (b + 512 * a)
  apply BitVec.eq_of_toNat_eq
  rw [BitVec.toNat_or, BitVec.toNat_ofNat, BitVec.toNat_ofNat, BitVec.toNat_ofNat, Nat.mod_eq_of_lt (by omega), Nat.mod_eq_of_lt (by omega), Nat.mod_eq_of_lt (by omega)]
  have q : 512 * a + b = 512 * a ||| b := Nat.two_pow_add_eq_or_of_lt (i := 9) (b := b) (by omega) a
  rw [Nat.or_comm, Nat.mul_comm a 512, ← q]
  omega
def ql_bec (c w : Int32) : Int32 := (c &&& 511) ||| (w <<< ((9 : Int32) &&& 31))
theorem qy_bec {a v : Nat} (h : a < 4096) (hv : v < 8) : ql_bec (nI a) (nI v) = nI (a % 512 + 512 * v) := by
  unfold ql_bec
  rw [qy_low h, pk_shlN (n := v) ((9 : Int32) &&& 31) 9 (by decide +kernel) (by omega)]
  exact qy_orN (by omega) hv
theorem qy_g7 {a : Nat} (h : a < 64) : nI a &&& 7 = nI (a % 8) := pk_andN (by omega) 3 (by decide +kernel)
theorem qy_g3 {a : Nat} (h : a < 64) : nI a >>> ((3 : Int32) &&& 31) = nI (a / 8) :=
  pk_shrN (by omega) ((3 : Int32) &&& 31) 3 (by decide +kernel)
theorem qy_gone : ∀ a : Nat, a < 64 → (nI a &&& (-8)) ||| 5 = nI (a / 8 * 8 + 5) := by decide +kernel
theorem qy_2 (a : Nat) : (2 : Int32) * nI a = nI (2 * a) := pk_mul 2 a
-- places
theorem qy_q {α : Type} {v : Int32} {j : Nat} (hv : v = nI j) (hj : j < 17) (k : Int32 → Option α) : (m_gd (m_in v 17) (m_nm (X 131 v.toNatClampNeg) k)) = k (X 131 j) := by
  subst hv
  rw [qz_gd (qz_in hj (by omega)), nI_clamp (by omega), qz_nm]
theorem qy_qw {α : Type} {v x : Int32} {j : Nat} (hv : v = nI j) (hj : j < 17) (k : XT → Option α) : (m_gd (m_in v 17) (m_nm (m_up X 131 (upd (X 131) v.toNatClampNeg x)) k)) = k (m_up X 131 (upd (X 131) j x)) := by
  subst hv
  rw [qz_gd (qz_in hj (by omega)), nI_clamp (by omega), qz_nm]
theorem qy_r {α : Type} {v : Int32} {i j : Nat} (hv : v = nI j) (hj : j < 48) (k : Int32 → Option α) : (m_gd (m_in v 48) (m_nm (X i v.toNatClampNeg) k)) = k (X i j) := by
  subst hv
  rw [qz_gd (qz_in hj (by omega)), nI_clamp (by omega), qz_nm]
theorem qy_rw {α : Type} {v x : Int32} {i j : Nat} (hv : v = nI j) (hj : j < 48) (k : XT → Option α) : (m_gd (m_in v 48) (m_nm (m_up X i (upd (X i) v.toNatClampNeg x)) k)) = k (m_up X i (upd (X i) j x)) := by
  subst hv
  rw [qz_gd (qz_in hj (by omega)), nI_clamp (by omega), qz_nm]
theorem qy_whatF {k : Nat} (hk : k < 48) : f_L_what N (nI k) X = some (X 132 k >>> ((9 : Int32) &&& 31), X) := by
  unfold f_L_what
  rw [qy_r rfl hk, qz_nm]
theorem qy_becF {k : Nat} (hk : k < 48) : f_L_becomes N (nI k) w X = some (m_up X 132 (upd (X 132) k (ql_bec (X 132 k) w))) := by
  unfold f_L_becomes
  rw [qy_r rfl hk, qz_nm, qz_nm, qz_nm, qy_rw rfl hk]
  rfl
theorem qy_recF {k : Nat} (hk : k < 48) : f_L_records N (nI k) X = some ((X 132 k >>> ((4 : Int32) &&& 31)) &&& 15, X) := by
  unfold f_L_records
  rw [qy_r rfl hk, qz_nm, qz_nm]
-- members
def ql_mem (X : XT) (g n : Nat) : Int32 := qz_sum (fun k => if X 135 k = nI (2 * g) then 1 + 1000 * ((X 132 k >>> ((4 : Int32) &&& 31)) &&& 15) else 0) n
theorem qy_members_l (h6 : X 131 6 = nI n) (hn : n ≤ 48) : ∀ fuel k : Nat, k ≤ n → n - k < fuel → f_L_members_6 N fuel (nI g) (ql_mem X g k) (nI k) X = some (ql_mem X g n, X) := by
  intro fuel
  induction fuel with
  | zero => intro k _ h; omega
  | succ F ih =>
    intro k hk hF
    rw [f_L_members_6, qy_q (v := 6) (j := 6) rfl (by omega), h6]
    by_cases e : k = n
    · subst e
      rw [if_pos (nI_le (Nat.le_refl _) (by omega))]
    · rw [if_neg (nI_ge (by omega) (by omega)), qy_r rfl (show k < 48 by omega), qy_2, qz_nm]
      have hi := ih (k + 1) (by omega) (by omega)
      have hs : ql_mem X g (k + 1) = ql_mem X g k + (if X 135 k = nI (2 * g) then 1 + 1000 * ((X 132 k >>> ((4 : Int32) &&& 31)) &&& 15) else 0) := rfl
      by_cases hm : X 135 k = nI (2 * g)
      · rw [if_pos hm] at hs ⊢
        rw [qy_recF (by omega), qz_bi, qz_nm, qz_nm, qz_nm, qz_nm, nI_1, ← hs]
        exact hi
      · rw [if_neg hm] at hs ⊢
        rw [qz_nm, qz_nm, nI_1, ← hs]
        exact hi
theorem qy_members (h6 : X 131 6 = nI n) (hn : n ≤ 48) (hN : 200 ≤ N) : f_L_members N (nI g) X = some (ql_mem X g n, X) := qy_members_l h6 hn N 0 (by omega) (by omega)
theorem qy_first_l (h6 : X 131 6 = nI n) (hn : n ≤ 48) : ∀ d fuel k : Nat, k + d = n → d < fuel → f_L_firstOf_2 N fuel (nI g) (nI k) X = some (qz_at (fun i => X 135 i = nI (2 * g)) d k 0, X) := by
  intro d
  induction d with
  | zero =>
    intro fuel k hk hF
    obtain ⟨F, rfl⟩ : ∃ F, fuel = F + 1 := ⟨fuel - 1, by omega⟩
    rw [f_L_firstOf_2, qy_q (v := 6) (j := 6) rfl (by omega), h6, if_pos (nI_le (by omega) (by omega))]
    rfl
  | succ d ih =>
    intro fuel k hk hF
    obtain ⟨F, rfl⟩ : ∃ F, fuel = F + 1 := ⟨fuel - 1, by omega⟩
    rw [f_L_firstOf_2, qy_q (v := 6) (j := 6) rfl (by omega), h6, if_neg (nI_ge (by omega) (by omega)), qy_r rfl (show k < 48 by omega), qy_2, qz_nm]
    show _ = some (if X 135 k = nI (2 * g) then (if 0 = 0 then nI k else _) else qz_at (fun i => X 135 i = nI (2 * g)) d (k + 1) 0, X)
    by_cases hm : X 135 k = nI (2 * g)
    · rw [if_pos hm, if_pos hm, if_pos rfl]
    · rw [if_neg hm, if_neg hm, qz_nm, nI_1]
      exact ih F (k + 1) (by omega) (by omega)
theorem qy_first (h6 : X 131 6 = nI n) (hn : n ≤ 48) (hN : 200 ≤ N) : f_L_firstOf N (nI g) X = some (qz_at (fun i => X 135 i = nI (2 * g)) n 0 0, X) := qy_first_l h6 hn n N 0 (by omega) (by omega)
-- the open commit of a client
theorem qy_open_l {c : Int32} (h6 : X 131 6 = nI n) (hn : n ≤ 48) : ∀ d fuel k : Nat, k + d = n → d < fuel → f_L_open_2 N fuel c (nI k) X = some (qz_at (fun i => X 132 i &&& 15 = c ∧ ¬ 4 ≤ X 132 i >>> ((9 : Int32) &&& 31)) d k 0, X) := by
  intro d
  induction d with
  | zero =>
    intro fuel k hk hF
    obtain ⟨F, rfl⟩ : ∃ F, fuel = F + 1 := ⟨fuel - 1, by omega⟩
    rw [f_L_open_2, qy_q (v := 6) (j := 6) rfl (by omega), h6, if_pos (nI_le (by omega) (by omega))]
    rfl
  | succ d ih =>
    intro fuel k hk hF
    obtain ⟨F, rfl⟩ : ∃ F, fuel = F + 1 := ⟨fuel - 1, by omega⟩
    rw [f_L_open_2, qy_q (v := 6) (j := 6) rfl (by omega), h6, if_neg (nI_ge (by omega) (by omega)), qy_r rfl (show k < 48 by omega), qz_nm]
    show _ = some (if X 132 k &&& 15 = c ∧ ¬ 4 ≤ X 132 k >>> ((9 : Int32) &&& 31) then (if 0 = 0 then nI k else _) else qz_at (fun i => X 132 i &&& 15 = c ∧ ¬ 4 ≤ X 132 i >>> ((9 : Int32) &&& 31)) d (k + 1) 0, X)
    have hi := ih F (k + 1) (by omega) (by omega)
    by_cases hm : X 132 k &&& 15 = c
    · rw [if_pos hm, qy_whatF (by omega), qz_bi]
      by_cases h4 : 4 ≤ X 132 k >>> ((9 : Int32) &&& 31)
      · rw [if_pos h4, if_neg (fun q => q.2 h4), qz_nm, nI_1]
        exact hi
      · rw [if_neg h4, if_pos ⟨hm, h4⟩, if_pos rfl]
    · rw [if_neg hm, if_neg (fun q => hm q.1), qz_nm, nI_1]
      exact hi
theorem qy_open {c : Int32} (h6 : X 131 6 = nI n) (hn : n ≤ 48) (hN : 200 ≤ N) : f_L_open N c X = some (qz_at (fun i => X 132 i &&& 15 = c ∧ ¬ 4 ≤ X 132 i >>> ((9 : Int32) &&& 31)) n 0 0, X) := qy_open_l h6 hn n N 0 (by omega) (by omega)
-- members become something
abbrev ql_is (X : XT) (g i : Nat) : Prop := X 135 i = nI (2 * g) ∧ ¬ 4 ≤ X 132 i >>> ((9 : Int32) &&& 31)
def ql_tr (X : XT) (g : Nat) (w : Int32) (m : Nat) : Nat → Int32 := fun i => if i < m ∧ ql_is X g i then ql_bec (X 132 i) w else X 132 i
def ql_tc (X : XT) (g m : Nat) : Int32 := qz_sum (fun i => if ql_is X g i then 1 else 0) m
theorem ql_tr_s (k : Nat) : ql_tr X g w (k + 1) = if ql_is X g k then upd (ql_tr X g w k) k (ql_bec (X 132 k) w) else ql_tr X g w k := by
  funext i
  by_cases hi : i = k
  · subst hi
    by_cases h : ql_is X g i
    · rw [if_pos h, qz_us]
      unfold ql_tr
      rw [if_pos ⟨by omega, h⟩]
    · rw [if_neg h]
      unfold ql_tr
      rw [if_neg (fun q => h q.2), if_neg (fun q => h q.2)]
  · have e : ql_tr X g w (k + 1) i = ql_tr X g w k i := by
      unfold ql_tr
      by_cases h : i < k ∧ ql_is X g i
      · rw [if_pos h, if_pos ⟨by omega, h.2⟩]
      · rw [if_neg h, if_neg (fun q => h ⟨by omega, q.2⟩)]
    rw [e]
    by_cases h : ql_is X g k
    · rw [if_pos h, qz_uo hi]
    · rw [if_neg h]
theorem ql_tr_k (k : Nat) : ql_tr X g w k k = X 132 k := by
  unfold ql_tr
  rw [if_neg (fun q => Nat.lt_irrefl _ q.1)]
theorem ql_tr_0 : ql_tr X g w 0 = X 132 := by
  funext i
  unfold ql_tr
  rw [if_neg (fun q => Nat.not_lt_zero _ q.1)]
theorem qy_turns_l (h6 : X 131 6 = nI n) (hn : n ≤ 48) : ∀ fuel k : Nat, k ≤ n → n - k < fuel → f_L_turns_6 N fuel (nI g) w (ql_tc X g k) (nI k) (m_up X 132 (ql_tr X g w k)) = some (ql_tc X g n, m_up X 132 (ql_tr X g w n)) := by
  intro fuel
  induction fuel with
  | zero => intro k _ h; omega
  | succ F ih =>
    intro k hk hF
    rw [f_L_turns_6, qy_q (v := 6) (j := 6) rfl (by omega), qz_un _ _ (show (131 : Nat) ≠ 132 by decide), h6]
    by_cases e : k = n
    · subst e
      rw [if_pos (nI_le (Nat.le_refl _) (by omega))]
    · rw [if_neg (nI_ge (by omega) (by omega)), qy_r rfl (show k < 48 by omega), qz_un _ _ (show (135 : Nat) ≠ 132 by decide), qy_2, qz_nm]
      have hi := ih (k + 1) (by omega) (by omega)
      have hs : ql_tc X g (k + 1) = ql_tc X g k + (if ql_is X g k then 1 else 0) := rfl
      have ht := ql_tr_s (X := X) (g := g) (w := w) k
      by_cases hm : X 135 k = nI (2 * g)
      · rw [if_pos hm, qy_whatF (by omega), qz_bi, qz_up, ql_tr_k]
        by_cases h4 : 4 ≤ X 132 k >>> ((9 : Int32) &&& 31)
        · rw [if_pos h4, qz_nm, nI_1]
          rw [if_neg (fun q => q.2 h4)] at hs ht
          rw [hs, ht, Int32.add_zero] at hi
          exact hi
        · rw [if_neg h4, qy_becF (by omega), qz_bv, qz_nm, qz_nm, nI_1, qz_up, ql_tr_k, qz_uu]
          rw [if_pos ⟨hm, h4⟩] at hs ht
          rw [hs, ht] at hi
          exact hi
      · rw [if_neg hm, qz_nm, nI_1]
        rw [if_neg (fun q => hm q.1)] at hs ht
        rw [hs, ht, Int32.add_zero] at hi
        exact hi
theorem qy_turns (h6 : X 131 6 = nI n) (hn : n ≤ 48) (hN : 200 ≤ N) : f_L_turns N (nI g) w X = some (ql_tc X g n, m_up X 132 (ql_tr X g w n)) := by
  have h := qy_turns_l (N := N) (g := g) (w := w) h6 hn N 0 (by omega) (by omega)
  rw [ql_tr_0, qz_ue] at h
  exact h
end QY0
