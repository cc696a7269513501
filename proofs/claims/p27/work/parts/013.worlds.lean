-- the worlds: written by wip/gen/worlds.py
def m_shL (a : Nat → Nat) (cy : Nat → ClassId) (b j : Nat) (f : Nat → Int32) : va_E := match j with
  | 0 => .inr (3, [.ref (a (b + 1)), .ref (a (b + 10)), .ref (a (b + 15)), .ref (a (b + 17)), .ref (a (b + 19)), .ref (a (b + 20)), .int (f 6), .int (f 7), .int (f 8), .int (f 9), .int (f 10), .int (f 11)])
  | 1 => .inr (0, [.ref (a (b + 2)), .ref (a (b + 3)), .ref (a (b + 4)), .ref (a (b + 5)), .ref (a (b + 6)), .ref (a (b + 7)), .ref (a (b + 8)), .ref (a (b + 9)), .int (f 8)])
  | 2 => .inl (cy 0, 150, .inl f)
  | 3 => .inl (cy 0, 150, .inl f)
  | 4 => .inl (cy 1, 150, .inl f)
  | 5 => .inl (cy 0, 150, .inl f)
  | 6 => .inl (cy 0, 150, .inl f)
  | 7 => .inl (cy 0, 150, .inl f)
  | 8 => .inl (cy 0, 150, .inl f)
  | 9 => .inl (cy 1, 150, .inl f)
  | 10 => .inr (1, [.ref (a (b + 11)), .ref (a (b + 12)), .ref (a (b + 13)), .ref (a (b + 14)), .int (f 4)])
  | 11 => .inl (cy 0, 150, .inl f)
  | 12 => .inl (cy 0, 150, .inl f)
  | 13 => .inl (cy 0, 150, .inl f)
  | 14 => .inl (cy 0, 150, .inl f)
  | 15 => .inr (4, [.ref (a (b + 16)), .int (f 1), .int (f 2)])
  | 16 => .inl (cy 0, 150, .inl f)
  | 17 => .inr (6, [.ref (a (b + 18))])
  | 18 => .inl (cy 0, 4, .inl f)
  | 19 => .inl (cy 0, 8, .inl f)
  | _ => .inl (cy 0, 12, .inl f)
def m_shC (a : Nat → Nat) (cy : Nat → ClassId) (i : Nat) (f : Nat → Int32) : va_E := if i < 126 then m_shL a cy (i / 21 * 21) (i % 21) f else match i with
  | 126 => .inr (7, [.ref (a 0), .ref (a 21), .ref (a 127), .ref (a 129), .int (f 4)])
  | 127 => .inr (2, [.ref (a 128), .int (f 1), .int (f 2)])
  | 128 => .inl (cy 3, 4, .inr (.inr (.inr (.inr (fun j => some (a (21 * (2 + j))))))))
  | 129 => .inr (5, [.ref (a 130), .int (f 1), .int (f 2), .int (f 3), .int (f 4), .int (f 5), .int (f 6)])
  | 130 => .inl (cy 2, 80, .inl f)
  | 131 => .inl (cy 0, 17, .inl f)
  | 132 => .inl (cy 0, 48, .inl f)
  | 133 => .inl (cy 0, 48, .inl f)
  | 134 => .inl (cy 0, 48, .inl f)
  | 135 => .inl (cy 0, 48, .inl f)
  | 136 => .inl (cy 0, 48, .inl f)
  | _ => .inl (cy 0, 48, .inl f)
def m_shM (a : Nat → Nat) (cy : Nat → ClassId) (i : Nat) (f : Nat → Int32) : va_E := match i with
  | 0 => .inr (8, [.ref (a 1), .ref (a 2), .ref (a 3), .int (f 3), .ref (a 4), .int (f 5), .ref (a 5), .int (f 7), .int (f 8), .int (f 9), .int (f 10), .int (f 11), .int (f 12)])
  | 1 => .inl (cy 0, 1816, .inl f)
  | 2 => .inl (cy 0, 1816, .inl f)
  | 3 => .inl (cy 0, 7264, .inl f)
  | 4 => .inl (cy 0, 1816, .inl f)
  | _ => .inl (cy 0, 80, .inl f)
def m_wl (n : Nat) (a : Nat → Nat) (sh : Nat → (Nat → Int32) → va_E) (X : XT) : va_W := (List.range n).map (fun i => (a i, sh i (X i)))
theorem m_wl_at {n : Nat} {a : Nat → Nat} {sh : Nat → (Nat → Int32) → va_E} {X : XT} {i : Nat} (h : i < n) : (m_wl n a sh X)[i]? = some (a i, sh i (X i)) := by
  unfold m_wl
  rw [List.getElem?_map, List.getElem?_range h]
  rfl
theorem m_wl_out {n : Nat} {a : Nat → Nat} {sh : Nat → (Nat → Int32) → va_E} {X : XT} {i : Nat} (h : ¬ i < n) : (m_wl n a sh X)[i]? = none := by
  unfold m_wl
  rw [List.getElem?_eq_none_iff, List.length_map, List.length_range]
  omega
theorem m_wl_set {n : Nat} {a : Nat → Nat} {sh : Nat → (Nat → Int32) → va_E} {X : XT} {i : Nat} (h : i < n) {f : Nat → Int32} {e : va_E} (he : sh i f = e) : (m_wl n a sh X).set i (a i, e) = m_wl n a sh (m_up X i f) := by
  subst he
  apply List.ext_getElem?
  intro j
  rw [List.getElem?_set]
  by_cases hj : j < n
  · rw [m_wl_at hj, m_wl_at hj]
    by_cases hij : i = j
    · subst hij
      rw [if_pos rfl, if_pos (by unfold m_wl; rw [List.length_map, List.length_range]; exact h)]
      simp [m_up]
    · rw [if_neg hij]
      simp [m_up, Ne.symm hij]
  · rw [m_wl_out hj, m_wl_out hj]
    by_cases hij : i = j
    · subst hij
      exact absurd h hj
    · rw [if_neg hij]
/-- the addresses of n cells, all apart -/
def m_inj (n : Nat) (a : Nat → Nat) : Prop := ∀ i j : Nat, i < n → j < n → a i = a j → i = j
def m_AA (n : Nat) (a : Nat → Nat) : Nat → Prop := fun q => ∃ i : Nat, i < n ∧ q = a i
theorem m_wl_D {n : Nat} {a : Nat → Nat} (h : m_inj n a) (sh : Nat → (Nat → Int32) → va_E) (X : XT) : va_D (m_AA n a) (m_wl n a sh X) := by
  have key : ∀ (k : Nat) (q : Nat × va_E), (m_wl n a sh X)[k]? = some q → k < n ∧ q.1 = a k := by
    intro k q hq
    by_cases hk : k < n
    · rw [m_wl_at hk] at hq
      cases hq
      exact ⟨hk, rfl⟩
    · rw [m_wl_out hk] at hq
      cases hq
  refine ⟨fun i j p q hp hq e => ?_, fun k q hq => ⟨k, key k q hq⟩⟩
  obtain ⟨h1, h2⟩ := key i p hp
  obtain ⟨h3, h4⟩ := key j q hq
  exact h i j h1 h3 (by rw [← h2, ← h4, e])
abbrev m_tc (cy : Nat → ClassId) : List (ClassId × FieldType) := [(cy 0, .int), (cy 1, .boolean), (cy 2, .char), (cy 3, .object "GroupCommits$Log")]
abbrev m_WC (a : Nat → Nat) (cy : Nat → ClassId) : XT → va_W := m_wl 138 a (m_shC a cy)
abbrev m_AC (a : Nat → Nat) : Nat → Prop := m_AA 138 a
abbrev m_WM (a : Nat → Nat) (cy : Nat → ClassId) : XT → va_W := m_wl 6 a (m_shM a cy)
abbrev m_AM (a : Nat → Nat) : Nat → Prop := m_AA 6 a
theorem m_shC_gen {a : Nat → Nat} {cy : Nat → ClassId} {k : Nat} (hk : k < 6) (j : Nat) (hj : j < 21) (f : Nat → Int32) : m_shC a cy (21 * k + j) f = m_shL a cy (21 * k) j f := by
  unfold m_shC
  rw [if_pos (by omega), show (21 * k + j) / 21 * 21 = 21 * k by omega, show (21 * k + j) % 21 = j by omega]
section MWL
variable {a : Nat → Nat} {cy : Nat → ClassId} {X : XT}
theorem mC_0 : (m_WC a cy X)[0]? = some (a 0, .inr (3, [.ref (a (1)), .ref (a (10)), .ref (a (15)), .ref (a (17)), .ref (a (19)), .ref (a (20)), .int (X 0 6), .int (X 0 7), .int (X 0 8), .int (X 0 9), .int (X 0 10), .int (X 0 11)])) := m_wl_at (Nat.le_of_ble_eq_true rfl)
theorem mC_1 : (m_WC a cy X)[1]? = some (a 1, .inr (0, [.ref (a (2)), .ref (a (3)), .ref (a (4)), .ref (a (5)), .ref (a (6)), .ref (a (7)), .ref (a (8)), .ref (a (9)), .int (X 1 8)])) := m_wl_at (Nat.le_of_ble_eq_true rfl)
theorem mC_2 : (m_WC a cy X)[2]? = some (a 2, .inl (cy 0, 150, .inl (X 2))) := m_wl_at (Nat.le_of_ble_eq_true rfl)
theorem mC_3 : (m_WC a cy X)[3]? = some (a 3, .inl (cy 0, 150, .inl (X 3))) := m_wl_at (Nat.le_of_ble_eq_true rfl)
theorem mC_4 : (m_WC a cy X)[4]? = some (a 4, .inl (cy 1, 150, .inl (X 4))) := m_wl_at (Nat.le_of_ble_eq_true rfl)
theorem mC_5 : (m_WC a cy X)[5]? = some (a 5, .inl (cy 0, 150, .inl (X 5))) := m_wl_at (Nat.le_of_ble_eq_true rfl)
theorem mC_6 : (m_WC a cy X)[6]? = some (a 6, .inl (cy 0, 150, .inl (X 6))) := m_wl_at (Nat.le_of_ble_eq_true rfl)
theorem mC_7 : (m_WC a cy X)[7]? = some (a 7, .inl (cy 0, 150, .inl (X 7))) := m_wl_at (Nat.le_of_ble_eq_true rfl)
theorem mC_8 : (m_WC a cy X)[8]? = some (a 8, .inl (cy 0, 150, .inl (X 8))) := m_wl_at (Nat.le_of_ble_eq_true rfl)
theorem mC_9 : (m_WC a cy X)[9]? = some (a 9, .inl (cy 1, 150, .inl (X 9))) := m_wl_at (Nat.le_of_ble_eq_true rfl)
theorem mC_10 : (m_WC a cy X)[10]? = some (a 10, .inr (1, [.ref (a (11)), .ref (a (12)), .ref (a (13)), .ref (a (14)), .int (X 10 4)])) := m_wl_at (Nat.le_of_ble_eq_true rfl)
theorem mC_11 : (m_WC a cy X)[11]? = some (a 11, .inl (cy 0, 150, .inl (X 11))) := m_wl_at (Nat.le_of_ble_eq_true rfl)
theorem mC_12 : (m_WC a cy X)[12]? = some (a 12, .inl (cy 0, 150, .inl (X 12))) := m_wl_at (Nat.le_of_ble_eq_true rfl)
theorem mC_13 : (m_WC a cy X)[13]? = some (a 13, .inl (cy 0, 150, .inl (X 13))) := m_wl_at (Nat.le_of_ble_eq_true rfl)
theorem mC_14 : (m_WC a cy X)[14]? = some (a 14, .inl (cy 0, 150, .inl (X 14))) := m_wl_at (Nat.le_of_ble_eq_true rfl)
theorem mC_15 : (m_WC a cy X)[15]? = some (a 15, .inr (4, [.ref (a (16)), .int (X 15 1), .int (X 15 2)])) := m_wl_at (Nat.le_of_ble_eq_true rfl)
theorem mC_16 : (m_WC a cy X)[16]? = some (a 16, .inl (cy 0, 150, .inl (X 16))) := m_wl_at (Nat.le_of_ble_eq_true rfl)
theorem mC_17 : (m_WC a cy X)[17]? = some (a 17, .inr (6, [.ref (a (18))])) := m_wl_at (Nat.le_of_ble_eq_true rfl)
theorem mC_18 : (m_WC a cy X)[18]? = some (a 18, .inl (cy 0, 4, .inl (X 18))) := m_wl_at (Nat.le_of_ble_eq_true rfl)
theorem mC_19 : (m_WC a cy X)[19]? = some (a 19, .inl (cy 0, 8, .inl (X 19))) := m_wl_at (Nat.le_of_ble_eq_true rfl)
theorem mC_20 : (m_WC a cy X)[20]? = some (a 20, .inl (cy 0, 12, .inl (X 20))) := m_wl_at (Nat.le_of_ble_eq_true rfl)
theorem mC_126 : (m_WC a cy X)[126]? = some (a 126, .inr (7, [.ref (a 0), .ref (a 21), .ref (a 127), .ref (a 129), .int (X 126 4)])) := m_wl_at (Nat.le_of_ble_eq_true rfl)
theorem mC_127 : (m_WC a cy X)[127]? = some (a 127, .inr (2, [.ref (a 128), .int (X 127 1), .int (X 127 2)])) := m_wl_at (Nat.le_of_ble_eq_true rfl)
theorem mC_128 : (m_WC a cy X)[128]? = some (a 128, .inl (cy 3, 4, .inr (.inr (.inr (.inr (fun j => some (a (21 * (2 + j))))))))) := m_wl_at (Nat.le_of_ble_eq_true rfl)
theorem mC_129 : (m_WC a cy X)[129]? = some (a 129, .inr (5, [.ref (a 130), .int (X 129 1), .int (X 129 2), .int (X 129 3), .int (X 129 4), .int (X 129 5), .int (X 129 6)])) := m_wl_at (Nat.le_of_ble_eq_true rfl)
theorem mC_130 : (m_WC a cy X)[130]? = some (a 130, .inl (cy 2, 80, .inl (X 130))) := m_wl_at (Nat.le_of_ble_eq_true rfl)
theorem mC_131 : (m_WC a cy X)[131]? = some (a 131, .inl (cy 0, 17, .inl (X 131))) := m_wl_at (Nat.le_of_ble_eq_true rfl)
theorem mC_132 : (m_WC a cy X)[132]? = some (a 132, .inl (cy 0, 48, .inl (X 132))) := m_wl_at (Nat.le_of_ble_eq_true rfl)
theorem mC_133 : (m_WC a cy X)[133]? = some (a 133, .inl (cy 0, 48, .inl (X 133))) := m_wl_at (Nat.le_of_ble_eq_true rfl)
theorem mC_134 : (m_WC a cy X)[134]? = some (a 134, .inl (cy 0, 48, .inl (X 134))) := m_wl_at (Nat.le_of_ble_eq_true rfl)
theorem mC_135 : (m_WC a cy X)[135]? = some (a 135, .inl (cy 0, 48, .inl (X 135))) := m_wl_at (Nat.le_of_ble_eq_true rfl)
theorem mC_136 : (m_WC a cy X)[136]? = some (a 136, .inl (cy 0, 48, .inl (X 136))) := m_wl_at (Nat.le_of_ble_eq_true rfl)
theorem mC_137 : (m_WC a cy X)[137]? = some (a 137, .inl (cy 0, 48, .inl (X 137))) := m_wl_at (Nat.le_of_ble_eq_true rfl)
theorem mC_0_6 {x : Int32} : (m_WC a cy X).set 0 (a 0, .inr (3, [.ref (a (1)), .ref (a (10)), .ref (a (15)), .ref (a (17)), .ref (a (19)), .ref (a (20)), .int (X 0 6), .int (X 0 7), .int (X 0 8), .int (X 0 9), .int (X 0 10), .int (X 0 11)].set 6 (.int x))) = m_WC a cy (m_up X 0 (upd (X 0) 6 x)) := m_wl_set (Nat.le_of_ble_eq_true rfl) rfl
theorem mC_0_7 {x : Int32} : (m_WC a cy X).set 0 (a 0, .inr (3, [.ref (a (1)), .ref (a (10)), .ref (a (15)), .ref (a (17)), .ref (a (19)), .ref (a (20)), .int (X 0 6), .int (X 0 7), .int (X 0 8), .int (X 0 9), .int (X 0 10), .int (X 0 11)].set 7 (.int x))) = m_WC a cy (m_up X 0 (upd (X 0) 7 x)) := m_wl_set (Nat.le_of_ble_eq_true rfl) rfl
theorem mC_0_8 {x : Int32} : (m_WC a cy X).set 0 (a 0, .inr (3, [.ref (a (1)), .ref (a (10)), .ref (a (15)), .ref (a (17)), .ref (a (19)), .ref (a (20)), .int (X 0 6), .int (X 0 7), .int (X 0 8), .int (X 0 9), .int (X 0 10), .int (X 0 11)].set 8 (.int x))) = m_WC a cy (m_up X 0 (upd (X 0) 8 x)) := m_wl_set (Nat.le_of_ble_eq_true rfl) rfl
theorem mC_0_9 {x : Int32} : (m_WC a cy X).set 0 (a 0, .inr (3, [.ref (a (1)), .ref (a (10)), .ref (a (15)), .ref (a (17)), .ref (a (19)), .ref (a (20)), .int (X 0 6), .int (X 0 7), .int (X 0 8), .int (X 0 9), .int (X 0 10), .int (X 0 11)].set 9 (.int x))) = m_WC a cy (m_up X 0 (upd (X 0) 9 x)) := m_wl_set (Nat.le_of_ble_eq_true rfl) rfl
theorem mC_0_10 {x : Int32} : (m_WC a cy X).set 0 (a 0, .inr (3, [.ref (a (1)), .ref (a (10)), .ref (a (15)), .ref (a (17)), .ref (a (19)), .ref (a (20)), .int (X 0 6), .int (X 0 7), .int (X 0 8), .int (X 0 9), .int (X 0 10), .int (X 0 11)].set 10 (.int x))) = m_WC a cy (m_up X 0 (upd (X 0) 10 x)) := m_wl_set (Nat.le_of_ble_eq_true rfl) rfl
theorem mC_0_11 {x : Int32} : (m_WC a cy X).set 0 (a 0, .inr (3, [.ref (a (1)), .ref (a (10)), .ref (a (15)), .ref (a (17)), .ref (a (19)), .ref (a (20)), .int (X 0 6), .int (X 0 7), .int (X 0 8), .int (X 0 9), .int (X 0 10), .int (X 0 11)].set 11 (.int x))) = m_WC a cy (m_up X 0 (upd (X 0) 11 x)) := m_wl_set (Nat.le_of_ble_eq_true rfl) rfl
theorem mC_1_8 {x : Int32} : (m_WC a cy X).set 1 (a 1, .inr (0, [.ref (a (2)), .ref (a (3)), .ref (a (4)), .ref (a (5)), .ref (a (6)), .ref (a (7)), .ref (a (8)), .ref (a (9)), .int (X 1 8)].set 8 (.int x))) = m_WC a cy (m_up X 1 (upd (X 1) 8 x)) := m_wl_set (Nat.le_of_ble_eq_true rfl) rfl
theorem mC_10_4 {x : Int32} : (m_WC a cy X).set 10 (a 10, .inr (1, [.ref (a (11)), .ref (a (12)), .ref (a (13)), .ref (a (14)), .int (X 10 4)].set 4 (.int x))) = m_WC a cy (m_up X 10 (upd (X 10) 4 x)) := m_wl_set (Nat.le_of_ble_eq_true rfl) rfl
theorem mC_15_1 {x : Int32} : (m_WC a cy X).set 15 (a 15, .inr (4, [.ref (a (16)), .int (X 15 1), .int (X 15 2)].set 1 (.int x))) = m_WC a cy (m_up X 15 (upd (X 15) 1 x)) := m_wl_set (Nat.le_of_ble_eq_true rfl) rfl
theorem mC_15_2 {x : Int32} : (m_WC a cy X).set 15 (a 15, .inr (4, [.ref (a (16)), .int (X 15 1), .int (X 15 2)].set 2 (.int x))) = m_WC a cy (m_up X 15 (upd (X 15) 2 x)) := m_wl_set (Nat.le_of_ble_eq_true rfl) rfl
theorem mC_126_4 {x : Int32} : (m_WC a cy X).set 126 (a 126, .inr (7, [.ref (a 0), .ref (a 21), .ref (a 127), .ref (a 129), .int (X 126 4)].set 4 (.int x))) = m_WC a cy (m_up X 126 (upd (X 126) 4 x)) := m_wl_set (Nat.le_of_ble_eq_true rfl) rfl
theorem mC_127_1 {x : Int32} : (m_WC a cy X).set 127 (a 127, .inr (2, [.ref (a 128), .int (X 127 1), .int (X 127 2)].set 1 (.int x))) = m_WC a cy (m_up X 127 (upd (X 127) 1 x)) := m_wl_set (Nat.le_of_ble_eq_true rfl) rfl
theorem mC_127_2 {x : Int32} : (m_WC a cy X).set 127 (a 127, .inr (2, [.ref (a 128), .int (X 127 1), .int (X 127 2)].set 2 (.int x))) = m_WC a cy (m_up X 127 (upd (X 127) 2 x)) := m_wl_set (Nat.le_of_ble_eq_true rfl) rfl
theorem mC_129_1 {x : Int32} : (m_WC a cy X).set 129 (a 129, .inr (5, [.ref (a 130), .int (X 129 1), .int (X 129 2), .int (X 129 3), .int (X 129 4), .int (X 129 5), .int (X 129 6)].set 1 (.int x))) = m_WC a cy (m_up X 129 (upd (X 129) 1 x)) := m_wl_set (Nat.le_of_ble_eq_true rfl) rfl
theorem mC_129_2 {x : Int32} : (m_WC a cy X).set 129 (a 129, .inr (5, [.ref (a 130), .int (X 129 1), .int (X 129 2), .int (X 129 3), .int (X 129 4), .int (X 129 5), .int (X 129 6)].set 2 (.int x))) = m_WC a cy (m_up X 129 (upd (X 129) 2 x)) := m_wl_set (Nat.le_of_ble_eq_true rfl) rfl
theorem mC_129_3 {x : Int32} : (m_WC a cy X).set 129 (a 129, .inr (5, [.ref (a 130), .int (X 129 1), .int (X 129 2), .int (X 129 3), .int (X 129 4), .int (X 129 5), .int (X 129 6)].set 3 (.int x))) = m_WC a cy (m_up X 129 (upd (X 129) 3 x)) := m_wl_set (Nat.le_of_ble_eq_true rfl) rfl
theorem mC_129_4 {x : Int32} : (m_WC a cy X).set 129 (a 129, .inr (5, [.ref (a 130), .int (X 129 1), .int (X 129 2), .int (X 129 3), .int (X 129 4), .int (X 129 5), .int (X 129 6)].set 4 (.int x))) = m_WC a cy (m_up X 129 (upd (X 129) 4 x)) := m_wl_set (Nat.le_of_ble_eq_true rfl) rfl
theorem mC_129_5 {x : Int32} : (m_WC a cy X).set 129 (a 129, .inr (5, [.ref (a 130), .int (X 129 1), .int (X 129 2), .int (X 129 3), .int (X 129 4), .int (X 129 5), .int (X 129 6)].set 5 (.int x))) = m_WC a cy (m_up X 129 (upd (X 129) 5 x)) := m_wl_set (Nat.le_of_ble_eq_true rfl) rfl
theorem mC_129_6 {x : Int32} : (m_WC a cy X).set 129 (a 129, .inr (5, [.ref (a 130), .int (X 129 1), .int (X 129 2), .int (X 129 3), .int (X 129 4), .int (X 129 5), .int (X 129 6)].set 6 (.int x))) = m_WC a cy (m_up X 129 (upd (X 129) 6 x)) := m_wl_set (Nat.le_of_ble_eq_true rfl) rfl
theorem mCs_2 (g : Nat → Int32) : (m_WC a cy X).set 2 (a 2, .inl (cy 0, 150, .inl g)) = m_WC a cy (m_up X 2 g) := m_wl_set (Nat.le_of_ble_eq_true rfl) rfl
theorem mCs_3 (g : Nat → Int32) : (m_WC a cy X).set 3 (a 3, .inl (cy 0, 150, .inl g)) = m_WC a cy (m_up X 3 g) := m_wl_set (Nat.le_of_ble_eq_true rfl) rfl
theorem mCs_4 (g : Nat → Int32) : (m_WC a cy X).set 4 (a 4, .inl (cy 1, 150, .inl g)) = m_WC a cy (m_up X 4 g) := m_wl_set (Nat.le_of_ble_eq_true rfl) rfl
theorem mCs_5 (g : Nat → Int32) : (m_WC a cy X).set 5 (a 5, .inl (cy 0, 150, .inl g)) = m_WC a cy (m_up X 5 g) := m_wl_set (Nat.le_of_ble_eq_true rfl) rfl
theorem mCs_6 (g : Nat → Int32) : (m_WC a cy X).set 6 (a 6, .inl (cy 0, 150, .inl g)) = m_WC a cy (m_up X 6 g) := m_wl_set (Nat.le_of_ble_eq_true rfl) rfl
theorem mCs_7 (g : Nat → Int32) : (m_WC a cy X).set 7 (a 7, .inl (cy 0, 150, .inl g)) = m_WC a cy (m_up X 7 g) := m_wl_set (Nat.le_of_ble_eq_true rfl) rfl
theorem mCs_8 (g : Nat → Int32) : (m_WC a cy X).set 8 (a 8, .inl (cy 0, 150, .inl g)) = m_WC a cy (m_up X 8 g) := m_wl_set (Nat.le_of_ble_eq_true rfl) rfl
theorem mCs_9 (g : Nat → Int32) : (m_WC a cy X).set 9 (a 9, .inl (cy 1, 150, .inl g)) = m_WC a cy (m_up X 9 g) := m_wl_set (Nat.le_of_ble_eq_true rfl) rfl
theorem mCs_11 (g : Nat → Int32) : (m_WC a cy X).set 11 (a 11, .inl (cy 0, 150, .inl g)) = m_WC a cy (m_up X 11 g) := m_wl_set (Nat.le_of_ble_eq_true rfl) rfl
theorem mCs_12 (g : Nat → Int32) : (m_WC a cy X).set 12 (a 12, .inl (cy 0, 150, .inl g)) = m_WC a cy (m_up X 12 g) := m_wl_set (Nat.le_of_ble_eq_true rfl) rfl
theorem mCs_13 (g : Nat → Int32) : (m_WC a cy X).set 13 (a 13, .inl (cy 0, 150, .inl g)) = m_WC a cy (m_up X 13 g) := m_wl_set (Nat.le_of_ble_eq_true rfl) rfl
theorem mCs_14 (g : Nat → Int32) : (m_WC a cy X).set 14 (a 14, .inl (cy 0, 150, .inl g)) = m_WC a cy (m_up X 14 g) := m_wl_set (Nat.le_of_ble_eq_true rfl) rfl
theorem mCs_16 (g : Nat → Int32) : (m_WC a cy X).set 16 (a 16, .inl (cy 0, 150, .inl g)) = m_WC a cy (m_up X 16 g) := m_wl_set (Nat.le_of_ble_eq_true rfl) rfl
theorem mCs_18 (g : Nat → Int32) : (m_WC a cy X).set 18 (a 18, .inl (cy 0, 4, .inl g)) = m_WC a cy (m_up X 18 g) := m_wl_set (Nat.le_of_ble_eq_true rfl) rfl
theorem mCs_19 (g : Nat → Int32) : (m_WC a cy X).set 19 (a 19, .inl (cy 0, 8, .inl g)) = m_WC a cy (m_up X 19 g) := m_wl_set (Nat.le_of_ble_eq_true rfl) rfl
theorem mCs_20 (g : Nat → Int32) : (m_WC a cy X).set 20 (a 20, .inl (cy 0, 12, .inl g)) = m_WC a cy (m_up X 20 g) := m_wl_set (Nat.le_of_ble_eq_true rfl) rfl
theorem mCs_130 (g : Nat → Int32) : (m_WC a cy X).set 130 (a 130, .inl (cy 2, 80, .inl g)) = m_WC a cy (m_up X 130 g) := m_wl_set (Nat.le_of_ble_eq_true rfl) rfl
theorem mCs_131 (g : Nat → Int32) : (m_WC a cy X).set 131 (a 131, .inl (cy 0, 17, .inl g)) = m_WC a cy (m_up X 131 g) := m_wl_set (Nat.le_of_ble_eq_true rfl) rfl
theorem mCs_132 (g : Nat → Int32) : (m_WC a cy X).set 132 (a 132, .inl (cy 0, 48, .inl g)) = m_WC a cy (m_up X 132 g) := m_wl_set (Nat.le_of_ble_eq_true rfl) rfl
theorem mCs_133 (g : Nat → Int32) : (m_WC a cy X).set 133 (a 133, .inl (cy 0, 48, .inl g)) = m_WC a cy (m_up X 133 g) := m_wl_set (Nat.le_of_ble_eq_true rfl) rfl
theorem mCs_134 (g : Nat → Int32) : (m_WC a cy X).set 134 (a 134, .inl (cy 0, 48, .inl g)) = m_WC a cy (m_up X 134 g) := m_wl_set (Nat.le_of_ble_eq_true rfl) rfl
theorem mCs_135 (g : Nat → Int32) : (m_WC a cy X).set 135 (a 135, .inl (cy 0, 48, .inl g)) = m_WC a cy (m_up X 135 g) := m_wl_set (Nat.le_of_ble_eq_true rfl) rfl
theorem mCs_136 (g : Nat → Int32) : (m_WC a cy X).set 136 (a 136, .inl (cy 0, 48, .inl g)) = m_WC a cy (m_up X 136 g) := m_wl_set (Nat.le_of_ble_eq_true rfl) rfl
theorem mCs_137 (g : Nat → Int32) : (m_WC a cy X).set 137 (a 137, .inl (cy 0, 48, .inl g)) = m_WC a cy (m_up X 137 g) := m_wl_set (Nat.le_of_ble_eq_true rfl) rfl
theorem mK_0 {k : Nat} (hk : k < 6) : (m_WC a cy X)[21 * k + 0]? = some (a (21 * k + 0), .inr (3, [.ref (a (21 * k + 1)), .ref (a (21 * k + 10)), .ref (a (21 * k + 15)), .ref (a (21 * k + 17)), .ref (a (21 * k + 19)), .ref (a (21 * k + 20)), .int ((X (21 * k + 0)) 6), .int ((X (21 * k + 0)) 7), .int ((X (21 * k + 0)) 8), .int ((X (21 * k + 0)) 9), .int ((X (21 * k + 0)) 10), .int ((X (21 * k + 0)) 11)])) := (m_wl_at (by omega)).trans (congrArg (fun e => some (a (21 * k + 0), e)) (m_shC_gen hk 0 (by decide) _))
theorem mK_1 {k : Nat} (hk : k < 6) : (m_WC a cy X)[21 * k + 1]? = some (a (21 * k + 1), .inr (0, [.ref (a (21 * k + 2)), .ref (a (21 * k + 3)), .ref (a (21 * k + 4)), .ref (a (21 * k + 5)), .ref (a (21 * k + 6)), .ref (a (21 * k + 7)), .ref (a (21 * k + 8)), .ref (a (21 * k + 9)), .int ((X (21 * k + 1)) 8)])) := (m_wl_at (by omega)).trans (congrArg (fun e => some (a (21 * k + 1), e)) (m_shC_gen hk 1 (by decide) _))
theorem mK_2 {k : Nat} (hk : k < 6) : (m_WC a cy X)[21 * k + 2]? = some (a (21 * k + 2), .inl (cy 0, 150, .inl (X (21 * k + 2)))) := (m_wl_at (by omega)).trans (congrArg (fun e => some (a (21 * k + 2), e)) (m_shC_gen hk 2 (by decide) _))
theorem mK_3 {k : Nat} (hk : k < 6) : (m_WC a cy X)[21 * k + 3]? = some (a (21 * k + 3), .inl (cy 0, 150, .inl (X (21 * k + 3)))) := (m_wl_at (by omega)).trans (congrArg (fun e => some (a (21 * k + 3), e)) (m_shC_gen hk 3 (by decide) _))
theorem mK_4 {k : Nat} (hk : k < 6) : (m_WC a cy X)[21 * k + 4]? = some (a (21 * k + 4), .inl (cy 1, 150, .inl (X (21 * k + 4)))) := (m_wl_at (by omega)).trans (congrArg (fun e => some (a (21 * k + 4), e)) (m_shC_gen hk 4 (by decide) _))
theorem mK_5 {k : Nat} (hk : k < 6) : (m_WC a cy X)[21 * k + 5]? = some (a (21 * k + 5), .inl (cy 0, 150, .inl (X (21 * k + 5)))) := (m_wl_at (by omega)).trans (congrArg (fun e => some (a (21 * k + 5), e)) (m_shC_gen hk 5 (by decide) _))
theorem mK_6 {k : Nat} (hk : k < 6) : (m_WC a cy X)[21 * k + 6]? = some (a (21 * k + 6), .inl (cy 0, 150, .inl (X (21 * k + 6)))) := (m_wl_at (by omega)).trans (congrArg (fun e => some (a (21 * k + 6), e)) (m_shC_gen hk 6 (by decide) _))
theorem mK_7 {k : Nat} (hk : k < 6) : (m_WC a cy X)[21 * k + 7]? = some (a (21 * k + 7), .inl (cy 0, 150, .inl (X (21 * k + 7)))) := (m_wl_at (by omega)).trans (congrArg (fun e => some (a (21 * k + 7), e)) (m_shC_gen hk 7 (by decide) _))
theorem mK_8 {k : Nat} (hk : k < 6) : (m_WC a cy X)[21 * k + 8]? = some (a (21 * k + 8), .inl (cy 0, 150, .inl (X (21 * k + 8)))) := (m_wl_at (by omega)).trans (congrArg (fun e => some (a (21 * k + 8), e)) (m_shC_gen hk 8 (by decide) _))
theorem mK_9 {k : Nat} (hk : k < 6) : (m_WC a cy X)[21 * k + 9]? = some (a (21 * k + 9), .inl (cy 1, 150, .inl (X (21 * k + 9)))) := (m_wl_at (by omega)).trans (congrArg (fun e => some (a (21 * k + 9), e)) (m_shC_gen hk 9 (by decide) _))
theorem mK_10 {k : Nat} (hk : k < 6) : (m_WC a cy X)[21 * k + 10]? = some (a (21 * k + 10), .inr (1, [.ref (a (21 * k + 11)), .ref (a (21 * k + 12)), .ref (a (21 * k + 13)), .ref (a (21 * k + 14)), .int ((X (21 * k + 10)) 4)])) := (m_wl_at (by omega)).trans (congrArg (fun e => some (a (21 * k + 10), e)) (m_shC_gen hk 10 (by decide) _))
theorem mK_11 {k : Nat} (hk : k < 6) : (m_WC a cy X)[21 * k + 11]? = some (a (21 * k + 11), .inl (cy 0, 150, .inl (X (21 * k + 11)))) := (m_wl_at (by omega)).trans (congrArg (fun e => some (a (21 * k + 11), e)) (m_shC_gen hk 11 (by decide) _))
theorem mK_12 {k : Nat} (hk : k < 6) : (m_WC a cy X)[21 * k + 12]? = some (a (21 * k + 12), .inl (cy 0, 150, .inl (X (21 * k + 12)))) := (m_wl_at (by omega)).trans (congrArg (fun e => some (a (21 * k + 12), e)) (m_shC_gen hk 12 (by decide) _))
theorem mK_13 {k : Nat} (hk : k < 6) : (m_WC a cy X)[21 * k + 13]? = some (a (21 * k + 13), .inl (cy 0, 150, .inl (X (21 * k + 13)))) := (m_wl_at (by omega)).trans (congrArg (fun e => some (a (21 * k + 13), e)) (m_shC_gen hk 13 (by decide) _))
theorem mK_14 {k : Nat} (hk : k < 6) : (m_WC a cy X)[21 * k + 14]? = some (a (21 * k + 14), .inl (cy 0, 150, .inl (X (21 * k + 14)))) := (m_wl_at (by omega)).trans (congrArg (fun e => some (a (21 * k + 14), e)) (m_shC_gen hk 14 (by decide) _))
theorem mK_15 {k : Nat} (hk : k < 6) : (m_WC a cy X)[21 * k + 15]? = some (a (21 * k + 15), .inr (4, [.ref (a (21 * k + 16)), .int ((X (21 * k + 15)) 1), .int ((X (21 * k + 15)) 2)])) := (m_wl_at (by omega)).trans (congrArg (fun e => some (a (21 * k + 15), e)) (m_shC_gen hk 15 (by decide) _))
theorem mK_16 {k : Nat} (hk : k < 6) : (m_WC a cy X)[21 * k + 16]? = some (a (21 * k + 16), .inl (cy 0, 150, .inl (X (21 * k + 16)))) := (m_wl_at (by omega)).trans (congrArg (fun e => some (a (21 * k + 16), e)) (m_shC_gen hk 16 (by decide) _))
theorem mK_17 {k : Nat} (hk : k < 6) : (m_WC a cy X)[21 * k + 17]? = some (a (21 * k + 17), .inr (6, [.ref (a (21 * k + 18))])) := (m_wl_at (by omega)).trans (congrArg (fun e => some (a (21 * k + 17), e)) (m_shC_gen hk 17 (by decide) _))
theorem mK_18 {k : Nat} (hk : k < 6) : (m_WC a cy X)[21 * k + 18]? = some (a (21 * k + 18), .inl (cy 0, 4, .inl (X (21 * k + 18)))) := (m_wl_at (by omega)).trans (congrArg (fun e => some (a (21 * k + 18), e)) (m_shC_gen hk 18 (by decide) _))
theorem mK_19 {k : Nat} (hk : k < 6) : (m_WC a cy X)[21 * k + 19]? = some (a (21 * k + 19), .inl (cy 0, 8, .inl (X (21 * k + 19)))) := (m_wl_at (by omega)).trans (congrArg (fun e => some (a (21 * k + 19), e)) (m_shC_gen hk 19 (by decide) _))
theorem mK_20 {k : Nat} (hk : k < 6) : (m_WC a cy X)[21 * k + 20]? = some (a (21 * k + 20), .inl (cy 0, 12, .inl (X (21 * k + 20)))) := (m_wl_at (by omega)).trans (congrArg (fun e => some (a (21 * k + 20), e)) (m_shC_gen hk 20 (by decide) _))
theorem mK_0_6 {k : Nat} (hk : k < 6) {x : Int32} : (m_WC a cy X).set (21 * k + 0) (a (21 * k + 0), .inr (3, [.ref (a (21 * k + 1)), .ref (a (21 * k + 10)), .ref (a (21 * k + 15)), .ref (a (21 * k + 17)), .ref (a (21 * k + 19)), .ref (a (21 * k + 20)), .int ((X (21 * k + 0)) 6), .int ((X (21 * k + 0)) 7), .int ((X (21 * k + 0)) 8), .int ((X (21 * k + 0)) 9), .int ((X (21 * k + 0)) 10), .int ((X (21 * k + 0)) 11)].set 6 (.int x))) = m_WC a cy (m_up X (21 * k + 0) (upd (X (21 * k + 0)) 6 x)) := m_wl_set (by omega) ((m_shC_gen hk 0 (by decide) _).trans rfl)
theorem mK_0_7 {k : Nat} (hk : k < 6) {x : Int32} : (m_WC a cy X).set (21 * k + 0) (a (21 * k + 0), .inr (3, [.ref (a (21 * k + 1)), .ref (a (21 * k + 10)), .ref (a (21 * k + 15)), .ref (a (21 * k + 17)), .ref (a (21 * k + 19)), .ref (a (21 * k + 20)), .int ((X (21 * k + 0)) 6), .int ((X (21 * k + 0)) 7), .int ((X (21 * k + 0)) 8), .int ((X (21 * k + 0)) 9), .int ((X (21 * k + 0)) 10), .int ((X (21 * k + 0)) 11)].set 7 (.int x))) = m_WC a cy (m_up X (21 * k + 0) (upd (X (21 * k + 0)) 7 x)) := m_wl_set (by omega) ((m_shC_gen hk 0 (by decide) _).trans rfl)
theorem mK_0_8 {k : Nat} (hk : k < 6) {x : Int32} : (m_WC a cy X).set (21 * k + 0) (a (21 * k + 0), .inr (3, [.ref (a (21 * k + 1)), .ref (a (21 * k + 10)), .ref (a (21 * k + 15)), .ref (a (21 * k + 17)), .ref (a (21 * k + 19)), .ref (a (21 * k + 20)), .int ((X (21 * k + 0)) 6), .int ((X (21 * k + 0)) 7), .int ((X (21 * k + 0)) 8), .int ((X (21 * k + 0)) 9), .int ((X (21 * k + 0)) 10), .int ((X (21 * k + 0)) 11)].set 8 (.int x))) = m_WC a cy (m_up X (21 * k + 0) (upd (X (21 * k + 0)) 8 x)) := m_wl_set (by omega) ((m_shC_gen hk 0 (by decide) _).trans rfl)
theorem mK_0_9 {k : Nat} (hk : k < 6) {x : Int32} : (m_WC a cy X).set (21 * k + 0) (a (21 * k + 0), .inr (3, [.ref (a (21 * k + 1)), .ref (a (21 * k + 10)), .ref (a (21 * k + 15)), .ref (a (21 * k + 17)), .ref (a (21 * k + 19)), .ref (a (21 * k + 20)), .int ((X (21 * k + 0)) 6), .int ((X (21 * k + 0)) 7), .int ((X (21 * k + 0)) 8), .int ((X (21 * k + 0)) 9), .int ((X (21 * k + 0)) 10), .int ((X (21 * k + 0)) 11)].set 9 (.int x))) = m_WC a cy (m_up X (21 * k + 0) (upd (X (21 * k + 0)) 9 x)) := m_wl_set (by omega) ((m_shC_gen hk 0 (by decide) _).trans rfl)
theorem mK_0_10 {k : Nat} (hk : k < 6) {x : Int32} : (m_WC a cy X).set (21 * k + 0) (a (21 * k + 0), .inr (3, [.ref (a (21 * k + 1)), .ref (a (21 * k + 10)), .ref (a (21 * k + 15)), .ref (a (21 * k + 17)), .ref (a (21 * k + 19)), .ref (a (21 * k + 20)), .int ((X (21 * k + 0)) 6), .int ((X (21 * k + 0)) 7), .int ((X (21 * k + 0)) 8), .int ((X (21 * k + 0)) 9), .int ((X (21 * k + 0)) 10), .int ((X (21 * k + 0)) 11)].set 10 (.int x))) = m_WC a cy (m_up X (21 * k + 0) (upd (X (21 * k + 0)) 10 x)) := m_wl_set (by omega) ((m_shC_gen hk 0 (by decide) _).trans rfl)
theorem mK_0_11 {k : Nat} (hk : k < 6) {x : Int32} : (m_WC a cy X).set (21 * k + 0) (a (21 * k + 0), .inr (3, [.ref (a (21 * k + 1)), .ref (a (21 * k + 10)), .ref (a (21 * k + 15)), .ref (a (21 * k + 17)), .ref (a (21 * k + 19)), .ref (a (21 * k + 20)), .int ((X (21 * k + 0)) 6), .int ((X (21 * k + 0)) 7), .int ((X (21 * k + 0)) 8), .int ((X (21 * k + 0)) 9), .int ((X (21 * k + 0)) 10), .int ((X (21 * k + 0)) 11)].set 11 (.int x))) = m_WC a cy (m_up X (21 * k + 0) (upd (X (21 * k + 0)) 11 x)) := m_wl_set (by omega) ((m_shC_gen hk 0 (by decide) _).trans rfl)
theorem mK_1_8 {k : Nat} (hk : k < 6) {x : Int32} : (m_WC a cy X).set (21 * k + 1) (a (21 * k + 1), .inr (0, [.ref (a (21 * k + 2)), .ref (a (21 * k + 3)), .ref (a (21 * k + 4)), .ref (a (21 * k + 5)), .ref (a (21 * k + 6)), .ref (a (21 * k + 7)), .ref (a (21 * k + 8)), .ref (a (21 * k + 9)), .int ((X (21 * k + 1)) 8)].set 8 (.int x))) = m_WC a cy (m_up X (21 * k + 1) (upd (X (21 * k + 1)) 8 x)) := m_wl_set (by omega) ((m_shC_gen hk 1 (by decide) _).trans rfl)
theorem mK_10_4 {k : Nat} (hk : k < 6) {x : Int32} : (m_WC a cy X).set (21 * k + 10) (a (21 * k + 10), .inr (1, [.ref (a (21 * k + 11)), .ref (a (21 * k + 12)), .ref (a (21 * k + 13)), .ref (a (21 * k + 14)), .int ((X (21 * k + 10)) 4)].set 4 (.int x))) = m_WC a cy (m_up X (21 * k + 10) (upd (X (21 * k + 10)) 4 x)) := m_wl_set (by omega) ((m_shC_gen hk 10 (by decide) _).trans rfl)
theorem mK_15_1 {k : Nat} (hk : k < 6) {x : Int32} : (m_WC a cy X).set (21 * k + 15) (a (21 * k + 15), .inr (4, [.ref (a (21 * k + 16)), .int ((X (21 * k + 15)) 1), .int ((X (21 * k + 15)) 2)].set 1 (.int x))) = m_WC a cy (m_up X (21 * k + 15) (upd (X (21 * k + 15)) 1 x)) := m_wl_set (by omega) ((m_shC_gen hk 15 (by decide) _).trans rfl)
theorem mK_15_2 {k : Nat} (hk : k < 6) {x : Int32} : (m_WC a cy X).set (21 * k + 15) (a (21 * k + 15), .inr (4, [.ref (a (21 * k + 16)), .int ((X (21 * k + 15)) 1), .int ((X (21 * k + 15)) 2)].set 2 (.int x))) = m_WC a cy (m_up X (21 * k + 15) (upd (X (21 * k + 15)) 2 x)) := m_wl_set (by omega) ((m_shC_gen hk 15 (by decide) _).trans rfl)
theorem mKs_2 {k : Nat} (hk : k < 6) (g : Nat → Int32) : (m_WC a cy X).set (21 * k + 2) (a (21 * k + 2), .inl (cy 0, 150, .inl g)) = m_WC a cy (m_up X (21 * k + 2) g) := m_wl_set (by omega) (m_shC_gen hk 2 (by decide) _)
theorem mKs_3 {k : Nat} (hk : k < 6) (g : Nat → Int32) : (m_WC a cy X).set (21 * k + 3) (a (21 * k + 3), .inl (cy 0, 150, .inl g)) = m_WC a cy (m_up X (21 * k + 3) g) := m_wl_set (by omega) (m_shC_gen hk 3 (by decide) _)
theorem mKs_4 {k : Nat} (hk : k < 6) (g : Nat → Int32) : (m_WC a cy X).set (21 * k + 4) (a (21 * k + 4), .inl (cy 1, 150, .inl g)) = m_WC a cy (m_up X (21 * k + 4) g) := m_wl_set (by omega) (m_shC_gen hk 4 (by decide) _)
theorem mKs_5 {k : Nat} (hk : k < 6) (g : Nat → Int32) : (m_WC a cy X).set (21 * k + 5) (a (21 * k + 5), .inl (cy 0, 150, .inl g)) = m_WC a cy (m_up X (21 * k + 5) g) := m_wl_set (by omega) (m_shC_gen hk 5 (by decide) _)
theorem mKs_6 {k : Nat} (hk : k < 6) (g : Nat → Int32) : (m_WC a cy X).set (21 * k + 6) (a (21 * k + 6), .inl (cy 0, 150, .inl g)) = m_WC a cy (m_up X (21 * k + 6) g) := m_wl_set (by omega) (m_shC_gen hk 6 (by decide) _)
theorem mKs_7 {k : Nat} (hk : k < 6) (g : Nat → Int32) : (m_WC a cy X).set (21 * k + 7) (a (21 * k + 7), .inl (cy 0, 150, .inl g)) = m_WC a cy (m_up X (21 * k + 7) g) := m_wl_set (by omega) (m_shC_gen hk 7 (by decide) _)
theorem mKs_8 {k : Nat} (hk : k < 6) (g : Nat → Int32) : (m_WC a cy X).set (21 * k + 8) (a (21 * k + 8), .inl (cy 0, 150, .inl g)) = m_WC a cy (m_up X (21 * k + 8) g) := m_wl_set (by omega) (m_shC_gen hk 8 (by decide) _)
theorem mKs_9 {k : Nat} (hk : k < 6) (g : Nat → Int32) : (m_WC a cy X).set (21 * k + 9) (a (21 * k + 9), .inl (cy 1, 150, .inl g)) = m_WC a cy (m_up X (21 * k + 9) g) := m_wl_set (by omega) (m_shC_gen hk 9 (by decide) _)
theorem mKs_11 {k : Nat} (hk : k < 6) (g : Nat → Int32) : (m_WC a cy X).set (21 * k + 11) (a (21 * k + 11), .inl (cy 0, 150, .inl g)) = m_WC a cy (m_up X (21 * k + 11) g) := m_wl_set (by omega) (m_shC_gen hk 11 (by decide) _)
theorem mKs_12 {k : Nat} (hk : k < 6) (g : Nat → Int32) : (m_WC a cy X).set (21 * k + 12) (a (21 * k + 12), .inl (cy 0, 150, .inl g)) = m_WC a cy (m_up X (21 * k + 12) g) := m_wl_set (by omega) (m_shC_gen hk 12 (by decide) _)
theorem mKs_13 {k : Nat} (hk : k < 6) (g : Nat → Int32) : (m_WC a cy X).set (21 * k + 13) (a (21 * k + 13), .inl (cy 0, 150, .inl g)) = m_WC a cy (m_up X (21 * k + 13) g) := m_wl_set (by omega) (m_shC_gen hk 13 (by decide) _)
theorem mKs_14 {k : Nat} (hk : k < 6) (g : Nat → Int32) : (m_WC a cy X).set (21 * k + 14) (a (21 * k + 14), .inl (cy 0, 150, .inl g)) = m_WC a cy (m_up X (21 * k + 14) g) := m_wl_set (by omega) (m_shC_gen hk 14 (by decide) _)
theorem mKs_16 {k : Nat} (hk : k < 6) (g : Nat → Int32) : (m_WC a cy X).set (21 * k + 16) (a (21 * k + 16), .inl (cy 0, 150, .inl g)) = m_WC a cy (m_up X (21 * k + 16) g) := m_wl_set (by omega) (m_shC_gen hk 16 (by decide) _)
theorem mKs_18 {k : Nat} (hk : k < 6) (g : Nat → Int32) : (m_WC a cy X).set (21 * k + 18) (a (21 * k + 18), .inl (cy 0, 4, .inl g)) = m_WC a cy (m_up X (21 * k + 18) g) := m_wl_set (by omega) (m_shC_gen hk 18 (by decide) _)
theorem mKs_19 {k : Nat} (hk : k < 6) (g : Nat → Int32) : (m_WC a cy X).set (21 * k + 19) (a (21 * k + 19), .inl (cy 0, 8, .inl g)) = m_WC a cy (m_up X (21 * k + 19) g) := m_wl_set (by omega) (m_shC_gen hk 19 (by decide) _)
theorem mKs_20 {k : Nat} (hk : k < 6) (g : Nat → Int32) : (m_WC a cy X).set (21 * k + 20) (a (21 * k + 20), .inl (cy 0, 12, .inl g)) = m_WC a cy (m_up X (21 * k + 20) g) := m_wl_set (by omega) (m_shC_gen hk 20 (by decide) _)
end MWL
-- the tables of Settings that nobody writes
def m_least (j : Nat) : Int32 := if j = 1 then 1 else if j = 2 then 1 else 0
def m_greatest (j : Nat) : Int32 := if j = 0 then 20 else if j = 1 then 40 else if j = 2 then 20 else 1
def m_ZC (a : Nat → Nat) (s : State) : Prop := (∃ t : Nat, va_Z "GroupCommits$Settings" "LEAST" "[I" (.ref t) (m_AC a) s s.heap ∧ va_T .int t 4 (fun j => .int (m_least j)) (m_AC a) s s.heap) ∧ (∃ t : Nat, va_Z "GroupCommits$Settings" "GREATEST" "[I" (.ref t) (m_AC a) s s.heap ∧ va_T .int t 4 (fun j => .int (m_greatest j)) (m_AC a) s s.heap)
def m_ZM (_ : State) : Prop := True
theorem m_ZC_keep {a : Nat → Nat} (u U : State) (hvm : u.vm.Alike U.vm) (hq : ∀ q : Nat, q < u.heap.size → ¬ m_AC a q → U.heap[q]? = u.heap[q]?) (h : m_ZC a u) : m_ZC a U := by
  obtain ⟨⟨t1, h1, h2⟩, t2, h3, h4⟩ := h
  exact ⟨⟨t1, (va_Z.moved hvm h1).kept hq, (va_T.moved hvm h2).kept hq⟩, t2, (va_Z.moved hvm h3).kept hq, (va_T.moved hvm h4).kept hq⟩
theorem m_ZM_keep {a : Nat → Nat} (u U : State) (_ : u.vm.Alike U.vm) (_ : ∀ q : Nat, q < u.heap.size → ¬ m_AM a q → U.heap[q]? = u.heap[q]?) (_ : m_ZM u) : m_ZM U := trivial
