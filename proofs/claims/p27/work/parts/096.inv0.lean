-- the start: written by wip/gen (rel.py fields)
section QI0
theorem qz_y0 (a : Nat) : m_y0 1 a = if a = 9 then (-5) else if a = 8 then (-5) else if a = 5 then 1 else if a = 4 then 4 else if a = 3 then 16 else if a = 2 then 6 else if a = 1 then 2 else 0 := rfl
theorem qz_x20 (c : Nat) (hc : c < 12) : m_xc0 20 c = -5 := by
  have h : c = 0 ∨ c = 1 ∨ c = 2 ∨ c = 3 ∨ c = 4 ∨ c = 5 ∨ c = 6 ∨ c = 7 ∨ c = 8 ∨ c = 9 ∨ c = 10 ∨ c = 11 := by omega
  rcases h with rfl | rfl | rfl | rfl | rfl | rfl | rfl | rfl | rfl | rfl | rfl | rfl <;> rfl
theorem qz_x18 (c : Nat) (hc : c < 4) : m_xc0 18 c = m_y0 1 (2 + c) := by
  have h : c = 0 ∨ c = 1 ∨ c = 2 ∨ c = 3 := by omega
  rcases h with rfl | rfl | rfl | rfl <;> rfl
theorem qz_R0 : qz_R m_xc0 (m_y0 1) 0 0 0 0 0 0 := by
  exact qz_R_mk
    rfl
    rfl
    rfl
    ⟨2, by omega, rfl⟩
    (fun i hi => qz_x18 i hi)
    ⟨6, by omega, rfl⟩
    ⟨4, by omega, by omega, rfl⟩
    rfl
    rfl
    (by omega)
    rfl
    rfl
    ⟨by omega, by omega, fun _ => Nat.le_refl _⟩
    rfl
    rfl
    rfl
    rfl
    rfl
    rfl
    rfl
    rfl
    rfl
    rfl
    (fun k hk => absurd hk (Nat.not_lt_zero _))
    (fun k hk => absurd hk (Nat.not_lt_zero _))
    (fun k hk => absurd hk (Nat.not_lt_zero _))
    (fun k hk => absurd hk (Nat.not_lt_zero _))
    (fun k hk => absurd hk (Nat.not_lt_zero _))
    (fun k hk => absurd hk (Nat.not_lt_zero _))
    (fun k hk => absurd hk (Nat.not_lt_zero _))
    (fun k hk => absurd hk (Nat.not_lt_zero _))
    (fun k hk => absurd hk (Nat.not_lt_zero _))
    (fun k hk => absurd hk (Nat.not_lt_zero _))
    (fun k hk => absurd hk (Nat.not_lt_zero _))
    (fun k hk => absurd hk (Nat.not_lt_zero _))
    (fun j h1 h2 => by rw [qz_y0, if_neg (by omega), if_neg (by omega), if_neg (by omega), if_neg (by omega), if_neg (by omega), if_neg (by omega), if_neg (by omega)])
    (fun k hk => Or.inl rfl)
    (fun k hk => Or.inl rfl)
    (fun k hk => absurd hk (Nat.not_lt_zero _))
    (fun k hk => absurd hk (Nat.not_lt_zero _))
    (fun k hk => absurd hk (Nat.not_lt_zero _))
    (fun k hk => absurd hk (Nat.not_lt_zero _))
    (fun k hk => absurd hk (Nat.not_lt_zero _))
    (fun k hk => absurd hk (Nat.not_lt_zero _))
    (Or.inl rfl)
    (fun k hk => absurd hk (Nat.not_lt_zero _))
    (fun k hk => absurd hk (Nat.not_lt_zero _))
    (fun _ q => absurd rfl q)
    (Or.inl rfl)
    (fun k hk => absurd hk (Nat.not_lt_zero _))
    rfl
    rfl
    ⟨Nat.le_refl _, Nat.le_refl _, fun q => absurd rfl q⟩
    (fun i h1 h2 => absurd h2 (Nat.not_lt_zero _))
    (fun i i2 j j2 h1 h2 h3 => absurd h3 (Nat.not_lt_zero _))
    (fun k hk => absurd hk (Nat.not_lt_zero _))
    (fun c hc => Or.inl ⟨qz_x20 c hc, fun k hk => absurd hk (Nat.not_lt_zero _)⟩)
    (fun k k2 h1 => absurd h1 (Nat.not_lt_zero _))
theorem qz_Inv0 : qz_I 0 m_xc0 m_y0 :=
  ⟨⟨0, 0, 0, 0, 0, qz_R0, fun _ => rfl, Nat.le_refl _⟩, Or.inl ⟨rfl, rfl⟩, ⟨0, 0, by omega, by omega, rfl, rfl, rfl, fun i hi => absurd hi (Nat.not_lt_zero _)⟩, ⟨0, by omega, rfl, rfl, fun q hq => absurd hq (Nat.not_lt_zero _)⟩⟩
end QI0
