-- told: one number out of all that is read, a function of the model's row
section QD1
variable {N T n p f e t b k : Nat} {X Y X2 Y2 : XT} {y y2 : Nat → Int32}
def qd_c (y : Nat → Int32) (n p k : Nat) : Int32 := match k with
  | 0 => y 0
  | 1 => y 1
  | 2 => y 8
  | 3 => y 9
  | 4 => qz_sum (fun i => if y (1216 + 4 * i + 0) = 2 then 1 else 0) p
  | 5 => qz_sum (fun i => if 4 ≤ y (16 + 8 * i + 3) then 0 else 1) n
  | 6 => y 2
  | 7 => y 3
  | 8 => y 4
  | _ => y 5
def qd_t (y : Nat → Int32) (k : Nat) : Int32 := match k with
  | 0 => y 6
  | 1 => y 10
  | 2 => y 11
  | 3 => y 12
  | 4 => y 7
  | 5 => y 13
  | 6 => y 14
  | _ => y 15
theorem qd_count (h : qz_R X y n p f e t b) (hN : 200 ≤ N) (hk : k < 10) : f_X7_count N (nI k) X = some (qd_c y n p k, X) := by
  have hc : k = 0 ∨ k = 1 ∨ k = 2 ∨ k = 3 ∨ k = 4 ∨ k = 5 ∨ k = 6 ∨ k = 7 ∨ k = 8 ∨ k = 9 := by omega
  rcases hc with rfl | rfl | rfl | rfl | rfl | rfl | rfl | rfl | rfl | rfl
  · exact qy_count0 (y := y) h
  · exact qy_count1 (y := y) h
  · exact qy_count2 (y := y) h
  · exact qy_count3 (y := y) h
  · exact qy_count4 (y := y) h hN
  · exact qy_count5 (y := y) h hN
  · exact qy_count6 (y := y) h
  · exact qy_count7 (y := y) h
  · exact qy_count8 (y := y) h
  · exact qy_count9 (y := y) h
theorem qd_total (h : qz_R X y n p f e t b) (hk : k < 8) : f_X7_total N (nI k) X = some (qd_t y k, X) := by
  have hc : k = 0 ∨ k = 1 ∨ k = 2 ∨ k = 3 ∨ k = 4 ∨ k = 5 ∨ k = 6 ∨ k = 7 := by omega
  rcases hc with rfl | rfl | rfl | rfl | rfl | rfl | rfl | rfl
  · exact qy_total0 h
  · exact qy_total1 h
  · exact qy_total2 h
  · exact qy_total3 h
  · exact qy_total4 h
  · exact qy_total5 h
  · exact qy_total6 h
  · exact qy_total7 h
def qd_fold (S : Nat → Int64 → Int64) : Nat → Nat → Int64 → Int64
  | 0, _, v => v
  | d + 1, k, v => qd_fold S d (k + 1) (S k v)
theorem qd_fold_c {S S2 : Nat → Int64 → Int64} : ∀ (d k : Nat) (v : Int64), (∀ (i : Nat) (u : Int64), k ≤ i → i < k + d → S i u = S2 i u) → qd_fold S d k v = qd_fold S2 d k v
  | 0, _, _, _ => rfl
  | d + 1, k, v, h => by
    show qd_fold S d (k + 1) (S k v) = qd_fold S2 d (k + 1) (S2 k v)
    rw [h k v (by omega) (by omega)]
    exact qd_fold_c d (k + 1) _ (fun i u h1 h2 => h i u (by omega) (by omega))
def qd_S1 (y : Nat → Int32) (n p : Nat) (k : Nat) (v : Int64) : Int64 := (31 : Int64) * v + (qd_c y n p k).toInt64
def qd_S2 (y : Nat → Int32) (k : Nat) (v : Int64) : Int64 := (31 : Int64) * v + (qd_t y k).toInt64
def qd_S3 (y : Nat → Int32) (k : Nat) (v : Int64) : Int64 := (31 : Int64) * v + (100 : Int64) * (y (16 + 8 * k + 3)).toInt64 + (10 : Int64) * (y (16 + 8 * k + 6)).toInt64 + (y (16 + 8 * k + 5)).toInt64
def qd_S4 (y : Nat → Int32) (n : Nat) (k : Nat) (v : Int64) : Int64 := (31 : Int64) * v + (1000 : Int64) * (qy_g y n k 0).toInt64 + (100 : Int64) * (qy_g y n k 1).toInt64 + (10 : Int64) * (qy_g y n k 6).toInt64 + (qy_g y n k 4).toInt64
def qd_T (y : Nat → Int32) (n p : Nat) : Int64 := qd_fold (qd_S4 y n) p 0 (qd_fold (qd_S3 y) n 0 (qd_fold (qd_S2 y) 8 0 (qd_fold (qd_S1 y n p) 10 0 113)))
theorem qd_bl {α : Type} (r : Int64) (X : XT) (k : Int64 → XT → Option α) : m_bl (some (r, X)) k = k r X := rfl
theorem qd_6 (h : qz_R X y n p f e t b) (hN : 200 ≤ N) : ∀ (d F k : Nat) (v : Int64), k + d = 10 → d < F → f_L_told_6 N F v (nI k) X = f_L_told_33 N N (qd_fold (qd_S1 y n p) d k v) 0 X := by
  intro d
  induction d with
  | zero =>
    intro F k v hk hF
    obtain ⟨F, rfl⟩ : ∃ G, F = G + 1 := ⟨F - 1, by omega⟩
    rw [f_L_told_6, if_pos (show (10 : Int32) ≤ nI k from nI_le (a := 10) (by omega) (by omega))]
    rfl
  | succ d ih =>
    intro F k v hk hF
    obtain ⟨F, rfl⟩ : ∃ G, F = G + 1 := ⟨F - 1, by omega⟩
    rw [f_L_told_6, if_neg (show ¬ (10 : Int32) ≤ nI k from nI_ge (b := 10) (by omega) (by omega)), qz_nm, qd_count h hN (by omega), qz_bi, qz_nm, qz_nm, qz_nm, nI_1]
    exact ih F (k + 1) _ (by omega) (by omega)
theorem qd_33 (h : qz_R X y n p f e t b) (hN : 200 ≤ N) : ∀ (d F k : Nat) (v : Int64), k + d = 8 → d < F → f_L_told_33 N F v (nI k) X = f_L_told_60 N N (qd_fold (qd_S2 y) d k v) 0 X := by
  intro d
  induction d with
  | zero =>
    intro F k v hk hF
    obtain ⟨F, rfl⟩ : ∃ G, F = G + 1 := ⟨F - 1, by omega⟩
    rw [f_L_told_33, if_pos (show (8 : Int32) ≤ nI k from nI_le (a := 8) (by omega) (by omega))]
    rfl
  | succ d ih =>
    intro F k v hk hF
    obtain ⟨F, rfl⟩ : ∃ G, F = G + 1 := ⟨F - 1, by omega⟩
    rw [f_L_told_33, if_neg (show ¬ (8 : Int32) ≤ nI k from nI_ge (b := 8) (by omega) (by omega)), qz_nm, qd_total h (by omega), qz_bi, qz_nm, qz_nm, qz_nm, nI_1]
    exact ih F (k + 1) _ (by omega) (by omega)
theorem qd_60 (h : qz_R X (Y 1) n p f e t b) (hN : 200 ≤ N) : ∀ (d F k : Nat) (v : Int64), k + d = n → d < F → f_L_told_60 N F v (nI k) X = f_L_told_116 N N (qd_fold (qd_S3 (Y 1)) d k v) 0 X := by
  have hn0 := qzR_nn h
  have h0 : f_X7_total N 0 X = some (nI n, X) := (qy_total0 h).trans (by rw [qzR_ny h])
  intro d
  induction d with
  | zero =>
    intro F k v hk hF
    obtain ⟨F, rfl⟩ : ∃ G, F = G + 1 := ⟨F - 1, by omega⟩
    rw [f_L_told_60, h0, qz_bi, if_pos (nI_le (by omega) (by omega))]
    rfl
  | succ d ih =>
    intro F k v hk hF
    obtain ⟨F, rfl⟩ : ∃ G, F = G + 1 := ⟨F - 1, by omega⟩
    have c3 : f_X7_commit N (nI k) 3 X = some (Y 1 (16 + 8 * k + 3), X) := qy_commit h (w := 3) (by omega) (by omega)
    have c6 : f_X7_commit N (nI k) 6 X = some (Y 1 (16 + 8 * k + 6), X) := qy_commit h (w := 6) (by omega) (by omega)
    have c5 : f_X7_commit N (nI k) 5 X = some (Y 1 (16 + 8 * k + 5), X) := qy_commit h (w := 5) (by omega) (by omega)
    rw [f_L_told_60, h0, qz_bi, if_neg (nI_ge (by omega) (by omega)), qz_nm, c3, qz_bi, qz_nm, qz_nm, qz_nm, c6, qz_bi, qz_nm, qz_nm, qz_nm, c5, qz_bi, qz_nm, qz_nm, qz_nm, nI_1]
    exact ih F (k + 1) _ (by omega) (by omega)
theorem qd_116 (h : qz_R X (Y 1) n p f e t 0) (hN : 200 ≤ N) : ∀ (d F k : Nat) (v : Int64), k + d = p → d < F → f_L_told_116 N F v (nI k) X = some (qd_fold (qd_S4 (Y 1) n) d k v, X) := by
  have hp0 := (qzR_pn h).1
  have h0 : f_X7_total N 4 X = some (nI p, X) := (qy_total4 h).trans (by rw [qzR_py h])
  intro d
  induction d with
  | zero =>
    intro F k v hk hF
    obtain ⟨F, rfl⟩ : ∃ G, F = G + 1 := ⟨F - 1, by omega⟩
    rw [f_L_told_116, h0, qz_bi, if_pos (nI_le (by omega) (by omega))]
    rfl
  | succ d ih =>
    intro F k v hk hF
    obtain ⟨F, rfl⟩ : ∃ G, F = G + 1 := ⟨F - 1, by omega⟩
    have c0 : f_X7_group N (nI k) 0 X = some (qy_g (Y 1) n k 0, X) := qy_group h hN (w := 0) (by omega) (by omega)
    have c1 : f_X7_group N (nI k) 1 X = some (qy_g (Y 1) n k 1, X) := qy_group h hN (w := 1) (by omega) (by omega)
    have c6 : f_X7_group N (nI k) 6 X = some (qy_g (Y 1) n k 6, X) := qy_group h hN (w := 6) (by omega) (by omega)
    have c4 : f_X7_group N (nI k) 4 X = some (qy_g (Y 1) n k 4, X) := qy_group h hN (w := 4) (by omega) (by omega)
    rw [f_L_told_116, h0, qz_bi, if_neg (nI_ge (by omega) (by omega)), qz_nm, c0, qz_bi, qz_nm, qz_nm, qz_nm, c1, qz_bi, qz_nm, qz_nm, qz_nm, c6, qz_bi, qz_nm, qz_nm, qz_nm, c4, qz_bi, qz_nm, qz_nm, qz_nm, nI_1]
    exact ih F (k + 1) _ (by omega) (by omega)
theorem qd_told (h : qz_R X (Y 1) n p f e t 0) (hN : 200 ≤ N) : f_L_told N X = some (qd_T (Y 1) n p, X) := by
  have hn0 := qzR_nn h
  have hp0 := (qzR_pn h).1
  have h1 := qd_6 h hN 10 N 0 113 (by omega) (by omega)
  have h2 := qd_33 h hN 8 N 0 (qd_fold (qd_S1 (Y 1) n p) 10 0 113) (by omega) (by omega)
  have h3 := qd_60 h hN n N 0 (qd_fold (qd_S2 (Y 1)) 8 0 (qd_fold (qd_S1 (Y 1) n p) 10 0 113)) (by omega) (by omega)
  have h4 := qd_116 h hN p N 0 (qd_fold (qd_S3 (Y 1)) n 0 (qd_fold (qd_S2 (Y 1)) 8 0 (qd_fold (qd_S1 (Y 1) n p) 10 0 113))) (by omega) (by omega)
  rw [nI_0] at h1 h2 h3 h4
  unfold f_L_told
  rw [h1, h2, h3, h4]
  rfl
theorem qd_mem_c (hy : ∀ a : Nat, a < 1816 → y2 a = y a) (hn : n ≤ 150) (g : Int32) : qz_mem y2 n g = qz_mem y n g := qz_sum_c n (fun k hk => by
  simp only [qz_mb]
  rw [hy _ (by omega), hy _ (by omega)])
theorem qd_T_c (hy : ∀ a : Nat, a < 1816 → y2 a = y a) (hn : n ≤ 150) (hp : p ≤ 150) : qd_T y2 n p = qd_T y n p := by
  have e1 : ∀ (i : Nat) (u : Int64), 0 ≤ i → i < 0 + 10 → qd_S1 y2 n p i u = qd_S1 y n p i u := fun i u _ hi => by
    have e : qd_c y2 n p i = qd_c y n p i := by
      have hc : i = 0 ∨ i = 1 ∨ i = 2 ∨ i = 3 ∨ i = 4 ∨ i = 5 ∨ i = 6 ∨ i = 7 ∨ i = 8 ∨ i = 9 := by omega
      rcases hc with rfl | rfl | rfl | rfl | rfl | rfl | rfl | rfl | rfl | rfl
      · exact hy 0 (by omega)
      · exact hy 1 (by omega)
      · exact hy 8 (by omega)
      · exact hy 9 (by omega)
      · exact qz_sum_c p (fun k hk => by rw [hy _ (by omega)])
      · exact qz_sum_c n (fun k hk => by rw [hy _ (by omega)])
      · exact hy 2 (by omega)
      · exact hy 3 (by omega)
      · exact hy 4 (by omega)
      · exact hy 5 (by omega)
    unfold qd_S1
    rw [e]
  have e2 : ∀ (i : Nat) (u : Int64), 0 ≤ i → i < 0 + 8 → qd_S2 y2 i u = qd_S2 y i u := fun i u _ hi => by
    have e : qd_t y2 i = qd_t y i := by
      have hc : i = 0 ∨ i = 1 ∨ i = 2 ∨ i = 3 ∨ i = 4 ∨ i = 5 ∨ i = 6 ∨ i = 7 := by omega
      rcases hc with rfl | rfl | rfl | rfl | rfl | rfl | rfl | rfl
      · exact hy 6 (by omega)
      · exact hy 10 (by omega)
      · exact hy 11 (by omega)
      · exact hy 12 (by omega)
      · exact hy 7 (by omega)
      · exact hy 13 (by omega)
      · exact hy 14 (by omega)
      · exact hy 15 (by omega)
    unfold qd_S2
    rw [e]
  have e3 : ∀ (i : Nat) (u : Int64), 0 ≤ i → i < 0 + n → qd_S3 y2 i u = qd_S3 y i u := fun i u _ hi => by
    unfold qd_S3
    rw [hy _ (by omega), hy _ (by omega), hy _ (by omega)]
  have e4 : ∀ (i : Nat) (u : Int64), 0 ≤ i → i < 0 + p → qd_S4 y2 n i u = qd_S4 y n i u := fun i u _ hi => by
    have g0 : qy_g y2 n i 0 = qy_g y n i 0 := hy _ (by omega)
    have g1 : qy_g y2 n i 1 = qy_g y n i 1 := qd_mem_c hy hn _
    have g6 : qy_g y2 n i 6 = qy_g y n i 6 := by
      show (if y2 (1216 + 4 * i + 0) = 3 then y2 (1216 + 4 * i + 3) else -5) = (if y (1216 + 4 * i + 0) = 3 then y (1216 + 4 * i + 3) else -5)
      rw [hy _ (by omega), hy _ (by omega)]
    have g4 : qy_g y2 n i 4 = qy_g y n i 4 := by
      show (if y2 (1216 + 4 * i + 0) = 1 then y2 (1216 + 4 * i + 1) else -5) = (if y (1216 + 4 * i + 0) = 1 then y (1216 + 4 * i + 1) else -5)
      rw [hy _ (by omega), hy _ (by omega)]
    unfold qd_S4
    rw [g0, g1, g6, g4]
  unfold qd_T
  rw [qd_fold_c 10 0 113 e1, qd_fold_c 8 0 _ e2, qd_fold_c n 0 _ e3, qd_fold_c p 0 _ e4]
/-- what is told is the same where the rows agree -/
theorem qd_same (hI : qz_I T X Y) (hI2 : qz_I T X2 Y2) (hy : ∀ a : Nat, a < 1816 → Y2 1 a = Y 1 a) (hN : 200 ≤ N) : ∃ v : Int64, f_L_told N X = some (v, X) ∧ f_L_told N X2 = some (v, X2) := by
  obtain ⟨⟨n, p, f, e, t, h, _⟩, _⟩ := hI
  obtain ⟨⟨n2, p2, f2, e2, t2, h2, _⟩, _⟩ := hI2
  have hn0 := qzR_nn h
  have hp0 := (qzR_pn h).1
  have hn2 := qzR_nn h2
  have hp2 := (qzR_pn h2).1
  have en : n2 = n := by
    have q : nI n2 = nI n := (qzR_ny h2).symm.trans ((hy 6 (by omega)).trans (qzR_ny h))
    exact (nI_eq (by omega) (by omega)).mp q
  have ep : p2 = p := by
    have q : nI p2 = nI p := (qzR_py h2).symm.trans ((hy 7 (by omega)).trans (qzR_py h))
    exact (nI_eq (by omega) (by omega)).mp q
  subst en
  subst ep
  exact ⟨_, qd_told h hN, (qd_told h2 hN).trans (by rw [qd_T_c hy hn0 hp0])⟩
end QD1
