-- open commits over one tick
section QD3
variable {X XA X1 X2 Y Z : XT} {N n p f f2 e e2 t b j j0 d T : Nat} {y yA y1 y2 : Nat → Int32}
theorem qz_open_iff (h : qz_R X y n p f e t b) {k : Nat} (hk : k < n) : ¬ 4 ≤ y (16 + 8 * k + 3) ↔ ∃ c : Nat, c < 12 ∧ X 20 c = nI k := by
  have hn0 := qzR_nn h
  constructor
  · intro hop
    obtain ⟨c, c1, c2⟩ := qzR_kc h k hk
    rcases qzR_oc h c c1 with ⟨_, q2⟩ | ⟨k2, q1, q2, q3, q4⟩
    · exact absurd c2 (q2 k hk hop)
    · exact ⟨c, c1, by rw [q2, qzR_ou h k2 k q1 hk (q3.trans c2.symm) q4 hop]⟩
  · rintro ⟨c, c1, c2⟩
    rcases qzR_oc h c c1 with ⟨q1, _⟩ | ⟨k2, q1, q2, q3, q4⟩
    · exact absurd (q1.symm.trans c2) (qz_5n (by omega))
    · rw [q2, nI_eq (by omega) (by omega)] at c2
      rw [← c2]; exact q4
theorem qz_tail20 (ht : qz_tailed XA X2 yA y2 p f f2 e e2 t n b) : X2 20 = XA 20 ∧ X2 8 = XA 8 := by
  have hs : ∀ (A B : XT) (u v : Nat → Int32) (e3 : Nat), qz_started A B u v p f f2 e3 → B 20 = A 20 ∧ B 8 = A 8 := by
    intro A B u v e3 q
    rcases q with ⟨rfl, _⟩ | ⟨_, _, _, j0, _, _, _, _, _, ar, _⟩
    · exact ⟨rfl, rfl⟩
    · exact ⟨ar 20 (by omega) (by decide) (by decide) (by decide) (by decide), ar 8 (by omega) (by decide) (by decide) (by decide) (by decide)⟩
  rcases ht with ⟨_, _, q⟩ | ⟨j0, E, X1, y1, _, _, _, _, _, _, hc, _, q⟩
  · exact hs _ _ _ _ _ q
  · obtain ⟨a1, a2⟩ := hs _ _ _ _ _ q
    obtain ⟨_, _, _, _, _, _, _, c8, _, _, c20⟩ := hc
    exact ⟨a1.trans c20, a2.trans c8⟩
/-- what is open stays open, but for the group that is finished -/
theorem qz_open_tick (h : qz_R X y n p f e t 0) (hA : qz_clocked X XA y yA) (htl : qz_tailed XA X2 yA y2 p f f2 e e2 (t + 1) n 0) (h2 : qz_R X2 y2 n p f2 e2 (t + 1) 0) {k : Nat} (hk : k < n) :
    X2 8 = X 8 ∧ ((¬ 4 ≤ y2 (16 + 8 * k + 3)) ↔ (¬ 4 ≤ y (16 + 8 * k + 3) ∧ ¬ (X 0 10 = X 8 k ∧ qz_L X = 1))) := by
  have hn0 := qzR_nn h
  have hp0 := (qzR_pn h).1
  obtain ⟨_, _, _, k8, _, _, _, kw⟩ := qz_D_clock h hA
  obtain ⟨a20, a8⟩ := qz_tail20 htl
  refine ⟨a8.trans k8, ?_⟩
  rw [qz_open_iff h2 hk, qz_open_iff h hk, a20]
  obtain ⟨j, hj, hg⟩ := qzR_kg h k hk
  have hX8 : X 8 k = nI j := (qzR_c8 h k hk).trans hg
  rcases kw with ⟨w1, w2, w3⟩ | ⟨w1, w2, w3, w4⟩
  · constructor
    · rintro ⟨c, c1, c2⟩
      rw [w3 c c1] at c2
      refine ⟨⟨c, c1, c2⟩, fun ⟨q1, q2⟩ => ?_⟩
      have := w2 (by rw [q1, hX8]; exact qz_n5 (by omega))
      omega
    · rintro ⟨⟨c, c1, c2⟩, _⟩
      exact ⟨c, c1, by rw [w3 c c1]; exact c2⟩
  · constructor
    · rintro ⟨c, c1, c2⟩
      rw [w4 c c1] at c2
      by_cases hh : qz_hit X (X 0 10) c
      · rw [if_pos hh] at c2
        exact absurd c2 (qz_5n (by omega))
      · rw [if_neg hh] at c2
        refine ⟨⟨c, c1, c2⟩, fun ⟨q1, _⟩ => hh ⟨by rw [c2]; exact qz_n5 (by omega), ?_⟩⟩
        rw [c2, nI_clamp (by omega)]
        exact q1.symm
    · rintro ⟨⟨c, c1, c2⟩, q⟩
      refine ⟨c, c1, ?_⟩
      rw [w4 c c1, if_neg]
      · exact c2
      · rintro ⟨_, u⟩
        rw [c2, nI_clamp (by omega)] at u
        exact q ⟨u.symm, w3⟩
/-- the model's ticks until a commit is answered -/
theorem qz_ticksFor_l (hN : 200 ≤ N) {k : Nat} : ∀ (d fuel v : Nat) (X : XT) (y : Nat → Int32) (n p f e t j : Nat), qz_R X y n p f e t 0 → (y 9 = -5 → f = e) → t + d < 2 ^ 28 → k < n → ¬ 4 ≤ y (16 + 8 * k + 3) → j < p → X 8 k = nI j → qz_D X f e t (nI j) d → d < fuel → ∃ y3 : Nat → Int32, f_X8_ticksFor_2 N fuel (nI k) (nI v) (m_up Z 1 y) = some (nI (v + d), m_up Z 1 y3) := by
  intro d
  induction d with
  | zero =>
    intro fuel v X y n p f e t j h hfe ht hk hop hj hX8 hD hF
    have := qz_D_le h (by omega) hj hD
    omega
  | succ d ih =>
    intro fuel v X y n p f e t j h hfe ht hk hop hj hX8 hD hF
    have hn0 := qzR_nn h
    have hp0 := (qzR_pn h).1
    obtain ⟨F, rfl⟩ : ∃ F, fuel = F + 1 := ⟨fuel - 1, by omega⟩
    obtain ⟨r, X2, y2, f2, e2, t1, t2, t3, t4, t5, XA, yA, u1, u2, u3, u4, u5⟩ := qz_tick (Z := Z) h (by omega) hN
    rw [f_X8_ticksFor_2, qz_of (v := 3) (w := 3) rfl (by omega) (by omega), qz_bi, if_neg hop, t2, qz_bi, qz_nm, nI_1]
    obtain ⟨o1, o2⟩ := qz_open_tick h u2 u5 t3 hk
    rcases qz_D_tick h hfe (by omega) u1 u2 u5 hj hD with ⟨q1, q2, q3⟩ | ⟨q1, q2⟩
    · have hcl : ¬ ¬ 4 ≤ y2 (16 + 8 * k + 3) := fun q => (o2.mp q).2 ⟨by rw [q1, hX8], q2⟩
      have hd : d = 0 := by omega
      subst hd
      obtain ⟨F2, rfl⟩ : ∃ F2, F = F2 + 1 := ⟨F - 1, by omega⟩
      rw [f_X8_ticksFor_2, qz_of (v := 3) (w := 3) rfl (by omega) (by omega), qz_bi, if_pos (Classical.not_not.mp hcl)]
      exact ⟨y2, rfl⟩
    · have hopn : ¬ 4 ≤ y2 (16 + 8 * k + 3) := o2.mpr ⟨hop, fun ⟨a1, a2⟩ => by
        rcases hD with ⟨b1, b2⟩ | ⟨b1, _⟩ | ⟨b1, _⟩
        · omega
        · exact b1 (a1.trans hX8)
        · exact b1 (a1.trans hX8)⟩
      obtain ⟨y3, e3⟩ := ih F (v + 1) X2 y2 n p f2 e2 (t + 1) j t3 t5 (by omega) hk hopn hj (by rw [o1]; exact hX8) (by rw [Nat.add_sub_cancel] at q2; exact q2) (by omega)
      exact ⟨y3, by rw [e3, show v + 1 + d = v + (d + 1) by omega]⟩
end QD3
