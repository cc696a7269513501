-- the relation is kept by the middle steps: written by wip/gen/ops2.py
section QO2
variable {x x2 : XT} {y y2 : Nat → Int32} {n p f e t b : Nat}
set_option maxHeartbeats 4000000 in
theorem qzo_begin (h : qz_R x y n p f e t b) (hx : ∀ i : Nat, i < 21 → i ≠ 0 → i ≠ 10 → i ≠ 11 → i ≠ 12 → i ≠ 13 → i ≠ 14 → i ≠ 19 → x2 i = x i) (hx0 : ∀ s : Nat, s ≠ 8 → s ≠ 9 → x2 0 s = x 0 s) (hx10 : ∀ s : Nat, s ≠ 4 → x2 10 s = x 10 s) (hx19 : ∀ s : Nat, s ≠ 4 → x2 19 s = x 19 s) (hs : ∀ a : Nat, a < 16 → a ≠ 7 → a ≠ 8 → y2 a = y a) (hk : ∀ k w : Nat, k < 150 → w < 8 → y2 (16 + 8 * k + w) = y (16 + 8 * k + w)) (hg : ∀ j w : Nat, j < 150 → w < 4 → w ≠ 0 → w ≠ 1 → y2 (1216 + 4 * j + w) = y (1216 + 4 * j + w)) (hp : p < 150) (hpn : p ≤ n) (hb : b ≠ 2) (h8 : y 8 = -5) (h10 : x2 10 4 = nI (p + 1)) (h7 : y2 7 = nI (p + 1)) (h19 : x2 19 4 = y2 7) (h08 : x2 0 8 = nI p) (h82 : y2 8 = nI p) (h11 : ∀ j : Nat, x2 11 j = if j = p then 1 else x 11 j) (h12 : ∀ j : Nat, x2 12 j = if j = p then 0 else x 12 j) (h13 : ∀ j : Nat, x2 13 j = if j = p then 0 else x 13 j) (h14 : ∀ j : Nat, x2 14 j = if j = p then 0 else x 14 j) (hg0 : ∀ j : Nat, j < 150 → y2 (1216 + 4 * j + 0) = if j = p then 1 else y (1216 + 4 * j + 0)) {v : Int32} (hg1 : y2 (1216 + 4 * p + 1) = v) (h09 : x2 0 9 = v) (hE : ∃ E : Nat, E ≤ t + 20 ∧ v = nI E) : qz_R x2 y2 n (p + 1) f e t 1 := by
  have ex0_6 : x2 0 6 = x 0 6 := hx0 6 (by decide) (by decide)
  have ex0_7 : x2 0 7 = x 0 7 := hx0 7 (by decide) (by decide)
  have ex0_10 : x2 0 10 = x 0 10 := hx0 10 (by decide) (by decide)
  have ex0_11 : x2 0 11 = x 0 11 := hx0 11 (by decide) (by decide)
  have ex1 : x2 1 = x 1 := hx 1 (by decide) (by decide) (by decide) (by decide) (by decide) (by decide) (by decide) (by decide)
  have ex2 : x2 2 = x 2 := hx 2 (by decide) (by decide) (by decide) (by decide) (by decide) (by decide) (by decide) (by decide)
  have ex3 : x2 3 = x 3 := hx 3 (by decide) (by decide) (by decide) (by decide) (by decide) (by decide) (by decide) (by decide)
  have ex4 : x2 4 = x 4 := hx 4 (by decide) (by decide) (by decide) (by decide) (by decide) (by decide) (by decide) (by decide)
  have ex5 : x2 5 = x 5 := hx 5 (by decide) (by decide) (by decide) (by decide) (by decide) (by decide) (by decide) (by decide)
  have ex6 : x2 6 = x 6 := hx 6 (by decide) (by decide) (by decide) (by decide) (by decide) (by decide) (by decide) (by decide)
  have ex7 : x2 7 = x 7 := hx 7 (by decide) (by decide) (by decide) (by decide) (by decide) (by decide) (by decide) (by decide)
  have ex8 : x2 8 = x 8 := hx 8 (by decide) (by decide) (by decide) (by decide) (by decide) (by decide) (by decide) (by decide)
  have ex9 : x2 9 = x 9 := hx 9 (by decide) (by decide) (by decide) (by decide) (by decide) (by decide) (by decide) (by decide)
  have ex15 : x2 15 = x 15 := hx 15 (by decide) (by decide) (by decide) (by decide) (by decide) (by decide) (by decide) (by decide)
  have ex16 : x2 16 = x 16 := hx 16 (by decide) (by decide) (by decide) (by decide) (by decide) (by decide) (by decide) (by decide)
  have ex18 : x2 18 = x 18 := hx 18 (by decide) (by decide) (by decide) (by decide) (by decide) (by decide) (by decide) (by decide)
  have ex19_0 : x2 19 0 = x 19 0 := hx19 0 (by decide)
  have ex19_1 : x2 19 1 = x 19 1 := hx19 1 (by decide)
  have ex19_2 : x2 19 2 = x 19 2 := hx19 2 (by decide)
  have ex19_3 : x2 19 3 = x 19 3 := hx19 3 (by decide)
  have ex19_5 : x2 19 5 = x 19 5 := hx19 5 (by decide)
  have ex19_6 : x2 19 6 = x 19 6 := hx19 6 (by decide)
  have ex19_7 : x2 19 7 = x 19 7 := hx19 7 (by decide)
  have ex20 : x2 20 = x 20 := hx 20 (by decide) (by decide) (by decide) (by decide) (by decide) (by decide) (by decide) (by decide)
  have es0 : y2 0 = y 0 := hs 0 (by decide) (by decide) (by decide)
  have es1 : y2 1 = y 1 := hs 1 (by decide) (by decide) (by decide)
  have es4 : y2 4 = y 4 := hs 4 (by decide) (by decide) (by decide)
  have es6 : y2 6 = y 6 := hs 6 (by decide) (by decide) (by decide)
  have es9 : y2 9 = y 9 := hs 9 (by decide) (by decide) (by decide)
  have es10 : y2 10 = y 10 := hs 10 (by decide) (by decide) (by decide)
  have es11 : y2 11 = y 11 := hs 11 (by decide) (by decide) (by decide)
  have es12 : y2 12 = y 12 := hs 12 (by decide) (by decide) (by decide)
  have es13 : y2 13 = y 13 := hs 13 (by decide) (by decide) (by decide)
  have es14 : y2 14 = y 14 := hs 14 (by decide) (by decide) (by decide)
  have es15 : y2 15 = y 15 := hs 15 (by decide) (by decide) (by decide)
  have es2 : y2 2 = y 2 := hs 2 (by decide) (by decide) (by decide)
  have esS : ∀ i : Nat, i < 4 → y2 (2 + i) = y (2 + i) := fun i hi => hs (2 + i) (by omega) (by omega) (by omega)
  have ek0 : ∀ k : Nat, k < 150 → y2 (16 + 8 * k + 0) = y (16 + 8 * k + 0) := fun k q => hk k 0 q (by decide) 
  have ek1 : ∀ k : Nat, k < 150 → y2 (16 + 8 * k + 1) = y (16 + 8 * k + 1) := fun k q => hk k 1 q (by decide) 
  have ek2 : ∀ k : Nat, k < 150 → y2 (16 + 8 * k + 2) = y (16 + 8 * k + 2) := fun k q => hk k 2 q (by decide) 
  have ek3 : ∀ k : Nat, k < 150 → y2 (16 + 8 * k + 3) = y (16 + 8 * k + 3) := fun k q => hk k 3 q (by decide) 
  have ek4 : ∀ k : Nat, k < 150 → y2 (16 + 8 * k + 4) = y (16 + 8 * k + 4) := fun k q => hk k 4 q (by decide) 
  have ek5 : ∀ k : Nat, k < 150 → y2 (16 + 8 * k + 5) = y (16 + 8 * k + 5) := fun k q => hk k 5 q (by decide) 
  have ek6 : ∀ k : Nat, k < 150 → y2 (16 + 8 * k + 6) = y (16 + 8 * k + 6) := fun k q => hk k 6 q (by decide) 
  have ek7 : ∀ k : Nat, k < 150 → y2 (16 + 8 * k + 7) = y (16 + 8 * k + 7) := fun k q => hk k 7 q (by decide) 
  have eg2 : ∀ j : Nat, j < 150 → y2 (1216 + 4 * j + 2) = y (1216 + 4 * j + 2) := fun j q => hg j 2 q (by decide) (by decide) (by decide)
  have eg3 : ∀ j : Nat, j < 150 → y2 (1216 + 4 * j + 3) = y (1216 + 4 * j + 3) := fun j q => hg j 3 q (by decide) (by decide) (by decide)
  have hn0 : n ≤ 150 := qzR_nn h
  have hp0 : p ≤ 150 := (qzR_pn h).1
  have em : ∀ g : Int32, qz_mem y2 n g = qz_mem y n g := fun g => qz_sum_c n (fun k hk => by simp only [qz_mb, ek6 k (by omega), ek7 k (by omega)])
  have er : ∀ g : Int32, qz_rec y2 n g = qz_rec y n g := fun g => qz_sum_c n (fun k hk => by simp only [qz_mb, ek1 k (by omega), ek6 k (by omega), ek7 k (by omega)])
  have hk6 : ∀ k : Nat, k < n → y (16 + 8 * k + 6) ≠ nI p := fun k hk q => by
    obtain ⟨j, hj, e1⟩ := qzR_kg h k hk
    rw [e1, nI_eq (by omega) (by omega)] at q
    omega
  have hm0 : qz_mem y n (nI p) = 0 := qz_sum_0 n (fun k hk => if_neg (fun q => hk6 k hk q.1))
  have hr0 : qz_rec y n (nI p) = 0 := qz_sum_0 n (fun k hk => if_neg (fun q => hk6 k hk q.1))
  exact qz_R_mk
    (by first | exact qzR_tx h | (simp only [ex0_6, ex0_7, ex0_10, ex0_11, ex1, ex2, ex3, ex4, ex5, ex6, ex7, ex8, ex9, ex15, ex16, ex18, ex19_0, ex19_1, ex19_2, ex19_3, ex19_5, ex19_6, ex19_7, ex20, es0, es1, es4, es6, es9, es10, es11, es12, es13, es14, es15, es2, em, er]; exact qzR_tx h))
    (by first | exact qzR_ty h | (simp only [ex0_6, ex0_7, ex0_10, ex0_11, ex1, ex2, ex3, ex4, ex5, ex6, ex7, ex8, ex9, ex15, ex16, ex18, ex19_0, ex19_1, ex19_2, ex19_3, ex19_5, ex19_6, ex19_7, ex20, es0, es1, es4, es6, es9, es10, es11, es12, es13, es14, es15, es2, em, er]; exact qzR_ty h))
    (by first | exact qzR_wx h | (simp only [ex0_6, ex0_7, ex0_10, ex0_11, ex1, ex2, ex3, ex4, ex5, ex6, ex7, ex8, ex9, ex15, ex16, ex18, ex19_0, ex19_1, ex19_2, ex19_3, ex19_5, ex19_6, ex19_7, ex20, es0, es1, es4, es6, es9, es10, es11, es12, es13, es14, es15, es2, em, er]; exact qzR_wx h))
    (by first | exact qzR_wr h | (simp only [ex0_6, ex0_7, ex0_10, ex0_11, ex1, ex2, ex3, ex4, ex5, ex6, ex7, ex8, ex9, ex15, ex16, ex18, ex19_0, ex19_1, ex19_2, ex19_3, ex19_5, ex19_6, ex19_7, ex20, es0, es1, es4, es6, es9, es10, es11, es12, es13, es14, es15, es2, em, er]; exact qzR_wr h))
    (fun i hi => by rw [ex18, esS i hi]; exact qzR_sx h i hi)
    (by first | exact qzR_s0 h | (simp only [ex0_6, ex0_7, ex0_10, ex0_11, ex1, ex2, ex3, ex4, ex5, ex6, ex7, ex8, ex9, ex15, ex16, ex18, ex19_0, ex19_1, ex19_2, ex19_3, ex19_5, ex19_6, ex19_7, ex20, es0, es1, es4, es6, es9, es10, es11, es12, es13, es14, es15, es2, em, er]; exact qzR_s0 h))
    (by first | exact qzR_s2 h | (simp only [ex0_6, ex0_7, ex0_10, ex0_11, ex1, ex2, ex3, ex4, ex5, ex6, ex7, ex8, ex9, ex15, ex16, ex18, ex19_0, ex19_1, ex19_2, ex19_3, ex19_5, ex19_6, ex19_7, ex20, es0, es1, es4, es6, es9, es10, es11, es12, es13, es14, es15, es2, em, er]; exact qzR_s2 h))
    (by first | exact qzR_nx h | (simp only [ex0_6, ex0_7, ex0_10, ex0_11, ex1, ex2, ex3, ex4, ex5, ex6, ex7, ex8, ex9, ex15, ex16, ex18, ex19_0, ex19_1, ex19_2, ex19_3, ex19_5, ex19_6, ex19_7, ex20, es0, es1, es4, es6, es9, es10, es11, es12, es13, es14, es15, es2, em, er]; exact qzR_nx h))
    (by first | exact qzR_ny h | (simp only [ex0_6, ex0_7, ex0_10, ex0_11, ex1, ex2, ex3, ex4, ex5, ex6, ex7, ex8, ex9, ex15, ex16, ex18, ex19_0, ex19_1, ex19_2, ex19_3, ex19_5, ex19_6, ex19_7, ex20, es0, es1, es4, es6, es9, es10, es11, es12, es13, es14, es15, es2, em, er]; exact qzR_ny h))
    (by first | exact qzR_nn h | (simp only [ex0_6, ex0_7, ex0_10, ex0_11, ex1, ex2, ex3, ex4, ex5, ex6, ex7, ex8, ex9, ex15, ex16, ex18, ex19_0, ex19_1, ex19_2, ex19_3, ex19_5, ex19_6, ex19_7, ex20, es0, es1, es4, es6, es9, es10, es11, es12, es13, es14, es15, es2, em, er]; exact qzR_nn h))
    h10
    h7
    ⟨by omega, by omega, fun q => absurd rfl q⟩
    (h08.trans h82.symm)
    (by first | exact qzR_vx h | (simp only [ex0_6, ex0_7, ex0_10, ex0_11, ex1, ex2, ex3, ex4, ex5, ex6, ex7, ex8, ex9, ex15, ex16, ex18, ex19_0, ex19_1, ex19_2, ex19_3, ex19_5, ex19_6, ex19_7, ex20, es0, es1, es4, es6, es9, es10, es11, es12, es13, es14, es15, es2, em, er]; exact qzR_vx h))
    (by first | exact qzR_t0 h | (simp only [ex0_6, ex0_7, ex0_10, ex0_11, ex1, ex2, ex3, ex4, ex5, ex6, ex7, ex8, ex9, ex15, ex16, ex18, ex19_0, ex19_1, ex19_2, ex19_3, ex19_5, ex19_6, ex19_7, ex20, es0, es1, es4, es6, es9, es10, es11, es12, es13, es14, es15, es2, em, er]; exact qzR_t0 h))
    (by first | exact qzR_t1 h | (simp only [ex0_6, ex0_7, ex0_10, ex0_11, ex1, ex2, ex3, ex4, ex5, ex6, ex7, ex8, ex9, ex15, ex16, ex18, ex19_0, ex19_1, ex19_2, ex19_3, ex19_5, ex19_6, ex19_7, ex20, es0, es1, es4, es6, es9, es10, es11, es12, es13, es14, es15, es2, em, er]; exact qzR_t1 h))
    (by first | exact qzR_t2 h | (simp only [ex0_6, ex0_7, ex0_10, ex0_11, ex1, ex2, ex3, ex4, ex5, ex6, ex7, ex8, ex9, ex15, ex16, ex18, ex19_0, ex19_1, ex19_2, ex19_3, ex19_5, ex19_6, ex19_7, ex20, es0, es1, es4, es6, es9, es10, es11, es12, es13, es14, es15, es2, em, er]; exact qzR_t2 h))
    (by first | exact qzR_t3 h | (simp only [ex0_6, ex0_7, ex0_10, ex0_11, ex1, ex2, ex3, ex4, ex5, ex6, ex7, ex8, ex9, ex15, ex16, ex18, ex19_0, ex19_1, ex19_2, ex19_3, ex19_5, ex19_6, ex19_7, ex20, es0, es1, es4, es6, es9, es10, es11, es12, es13, es14, es15, es2, em, er]; exact qzR_t3 h))
    h19
    (by first | exact qzR_t5 h | (simp only [ex0_6, ex0_7, ex0_10, ex0_11, ex1, ex2, ex3, ex4, ex5, ex6, ex7, ex8, ex9, ex15, ex16, ex18, ex19_0, ex19_1, ex19_2, ex19_3, ex19_5, ex19_6, ex19_7, ex20, es0, es1, es4, es6, es9, es10, es11, es12, es13, es14, es15, es2, em, er]; exact qzR_t5 h))
    (by first | exact qzR_t6 h | (simp only [ex0_6, ex0_7, ex0_10, ex0_11, ex1, ex2, ex3, ex4, ex5, ex6, ex7, ex8, ex9, ex15, ex16, ex18, ex19_0, ex19_1, ex19_2, ex19_3, ex19_5, ex19_6, ex19_7, ex20, es0, es1, es4, es6, es9, es10, es11, es12, es13, es14, es15, es2, em, er]; exact qzR_t6 h))
    (by first | exact qzR_t7 h | (simp only [ex0_6, ex0_7, ex0_10, ex0_11, ex1, ex2, ex3, ex4, ex5, ex6, ex7, ex8, ex9, ex15, ex16, ex18, ex19_0, ex19_1, ex19_2, ex19_3, ex19_5, ex19_6, ex19_7, ex20, es0, es1, es4, es6, es9, es10, es11, es12, es13, es14, es15, es2, em, er]; exact qzR_t7 h))
    (fun k hk => by simp only [ex0_6, ex0_7, ex0_10, ex0_11, ex1, ex2, ex3, ex4, ex5, ex6, ex7, ex8, ex9, ex15, ex16, ex18, ex19_0, ex19_1, ex19_2, ex19_3, ex19_5, ex19_6, ex19_7, ex20, es0, es1, es4, es6, es9, es10, es11, es12, es13, es14, es15, es2, em, er, ek0 k (show k < 150 by omega), ek1 k (show k < 150 by omega), ek2 k (show k < 150 by omega), ek3 k (show k < 150 by omega), ek4 k (show k < 150 by omega), ek5 k (show k < 150 by omega), ek6 k (show k < 150 by omega), ek7 k (show k < 150 by omega)]; exact qzR_c2 h k hk)
    (fun k hk => by simp only [ex0_6, ex0_7, ex0_10, ex0_11, ex1, ex2, ex3, ex4, ex5, ex6, ex7, ex8, ex9, ex15, ex16, ex18, ex19_0, ex19_1, ex19_2, ex19_3, ex19_5, ex19_6, ex19_7, ex20, es0, es1, es4, es6, es9, es10, es11, es12, es13, es14, es15, es2, em, er, ek0 k (show k < 150 by omega), ek1 k (show k < 150 by omega), ek2 k (show k < 150 by omega), ek3 k (show k < 150 by omega), ek4 k (show k < 150 by omega), ek5 k (show k < 150 by omega), ek6 k (show k < 150 by omega), ek7 k (show k < 150 by omega)]; exact qzR_c3 h k hk)
    (fun k hk => by simp only [ex0_6, ex0_7, ex0_10, ex0_11, ex1, ex2, ex3, ex4, ex5, ex6, ex7, ex8, ex9, ex15, ex16, ex18, ex19_0, ex19_1, ex19_2, ex19_3, ex19_5, ex19_6, ex19_7, ex20, es0, es1, es4, es6, es9, es10, es11, es12, es13, es14, es15, es2, em, er, ek0 k (show k < 150 by omega), ek1 k (show k < 150 by omega), ek2 k (show k < 150 by omega), ek3 k (show k < 150 by omega), ek4 k (show k < 150 by omega), ek5 k (show k < 150 by omega), ek6 k (show k < 150 by omega), ek7 k (show k < 150 by omega)]; exact qzR_c4 h k hk)
    (fun k hk => by simp only [ex0_6, ex0_7, ex0_10, ex0_11, ex1, ex2, ex3, ex4, ex5, ex6, ex7, ex8, ex9, ex15, ex16, ex18, ex19_0, ex19_1, ex19_2, ex19_3, ex19_5, ex19_6, ex19_7, ex20, es0, es1, es4, es6, es9, es10, es11, es12, es13, es14, es15, es2, em, er, ek0 k (show k < 150 by omega), ek1 k (show k < 150 by omega), ek2 k (show k < 150 by omega), ek3 k (show k < 150 by omega), ek4 k (show k < 150 by omega), ek5 k (show k < 150 by omega), ek6 k (show k < 150 by omega), ek7 k (show k < 150 by omega)]; exact qzR_c5 h k hk)
    (fun k hk => by simp only [ex0_6, ex0_7, ex0_10, ex0_11, ex1, ex2, ex3, ex4, ex5, ex6, ex7, ex8, ex9, ex15, ex16, ex18, ex19_0, ex19_1, ex19_2, ex19_3, ex19_5, ex19_6, ex19_7, ex20, es0, es1, es4, es6, es9, es10, es11, es12, es13, es14, es15, es2, em, er, ek0 k (show k < 150 by omega), ek1 k (show k < 150 by omega), ek2 k (show k < 150 by omega), ek3 k (show k < 150 by omega), ek4 k (show k < 150 by omega), ek5 k (show k < 150 by omega), ek6 k (show k < 150 by omega), ek7 k (show k < 150 by omega)]; exact qzR_c6 h k hk)
    (fun k hk => by simp only [ex0_6, ex0_7, ex0_10, ex0_11, ex1, ex2, ex3, ex4, ex5, ex6, ex7, ex8, ex9, ex15, ex16, ex18, ex19_0, ex19_1, ex19_2, ex19_3, ex19_5, ex19_6, ex19_7, ex20, es0, es1, es4, es6, es9, es10, es11, es12, es13, es14, es15, es2, em, er, ek0 k (show k < 150 by omega), ek1 k (show k < 150 by omega), ek2 k (show k < 150 by omega), ek3 k (show k < 150 by omega), ek4 k (show k < 150 by omega), ek5 k (show k < 150 by omega), ek6 k (show k < 150 by omega), ek7 k (show k < 150 by omega)]; exact qzR_c7 h k hk)
    (fun k hk => by simp only [ex0_6, ex0_7, ex0_10, ex0_11, ex1, ex2, ex3, ex4, ex5, ex6, ex7, ex8, ex9, ex15, ex16, ex18, ex19_0, ex19_1, ex19_2, ex19_3, ex19_5, ex19_6, ex19_7, ex20, es0, es1, es4, es6, es9, es10, es11, es12, es13, es14, es15, es2, em, er, ek0 k (show k < 150 by omega), ek1 k (show k < 150 by omega), ek2 k (show k < 150 by omega), ek3 k (show k < 150 by omega), ek4 k (show k < 150 by omega), ek5 k (show k < 150 by omega), ek6 k (show k < 150 by omega), ek7 k (show k < 150 by omega)]; exact qzR_c8 h k hk)
    (fun k hk => by simp only [ex0_6, ex0_7, ex0_10, ex0_11, ex1, ex2, ex3, ex4, ex5, ex6, ex7, ex8, ex9, ex15, ex16, ex18, ex19_0, ex19_1, ex19_2, ex19_3, ex19_5, ex19_6, ex19_7, ex20, es0, es1, es4, es6, es9, es10, es11, es12, es13, es14, es15, es2, em, er, ek0 k (show k < 150 by omega), ek1 k (show k < 150 by omega), ek2 k (show k < 150 by omega), ek3 k (show k < 150 by omega), ek4 k (show k < 150 by omega), ek5 k (show k < 150 by omega), ek6 k (show k < 150 by omega), ek7 k (show k < 150 by omega)]; exact qzR_c9 h k hk)
    (fun j hj => by rw [h11, hg0 j (by omega)]; split; rfl; exact qzR_g11 h j (by omega))
    (fun j hj => by rw [h14, eg2 j (by omega)]; split; (rename_i q; rw [q]; exact (qzR_g0 h p (Nat.le_refl _) hp).symm); exact qzR_g14 h j (by omega))
    (fun j hj => by rw [h12, em]; split; (rename_i q; rw [q]; exact hm0.symm); exact qzR_g12 h j (by omega))
    (fun j hj => by rw [h13, er]; split; (rename_i q; rw [q]; exact hr0.symm); exact qzR_g13 h j (by omega))
    (fun j h1 h2 => by rw [eg2 j h2]; exact qzR_g0 h j (by omega) h2)
    (by first | exact qzR_b4 h | (simp only [ex0_6, ex0_7, ex0_10, ex0_11, ex1, ex2, ex3, ex4, ex5, ex6, ex7, ex8, ex9, ex15, ex16, ex18, ex19_0, ex19_1, ex19_2, ex19_3, ex19_5, ex19_6, ex19_7, ex20, es0, es1, es4, es6, es9, es10, es11, es12, es13, es14, es15, es2, em, er]; exact qzR_b4 h))
    (by first | exact qzR_b9 h | (simp only [ex0_6, ex0_7, ex0_10, ex0_11, ex1, ex2, ex3, ex4, ex5, ex6, ex7, ex8, ex9, ex15, ex16, ex18, ex19_0, ex19_1, ex19_2, ex19_3, ex19_5, ex19_6, ex19_7, ex20, es0, es1, es4, es6, es9, es10, es11, es12, es13, es14, es15, es2, em, er]; exact qzR_b9 h))
    (fun k hk => by simp only [ex0_6, ex0_7, ex0_10, ex0_11, ex1, ex2, ex3, ex4, ex5, ex6, ex7, ex8, ex9, ex15, ex16, ex18, ex19_0, ex19_1, ex19_2, ex19_3, ex19_5, ex19_6, ex19_7, ex20, es0, es1, es4, es6, es9, es10, es11, es12, es13, es14, es15, es2, em, er, ek0 k (show k < 150 by omega), ek1 k (show k < 150 by omega), ek2 k (show k < 150 by omega), ek3 k (show k < 150 by omega), ek4 k (show k < 150 by omega), ek5 k (show k < 150 by omega), ek6 k (show k < 150 by omega), ek7 k (show k < 150 by omega)]; exact qzR_kc h k hk)
    (fun k hk => by simp only [ex0_6, ex0_7, ex0_10, ex0_11, ex1, ex2, ex3, ex4, ex5, ex6, ex7, ex8, ex9, ex15, ex16, ex18, ex19_0, ex19_1, ex19_2, ex19_3, ex19_5, ex19_6, ex19_7, ex20, es0, es1, es4, es6, es9, es10, es11, es12, es13, es14, es15, es2, em, er, ek0 k (show k < 150 by omega), ek1 k (show k < 150 by omega), ek2 k (show k < 150 by omega), ek3 k (show k < 150 by omega), ek4 k (show k < 150 by omega), ek5 k (show k < 150 by omega), ek6 k (show k < 150 by omega), ek7 k (show k < 150 by omega)]; exact qzR_kr h k hk)
    (fun k hk => by simp only [ex0_6, ex0_7, ex0_10, ex0_11, ex1, ex2, ex3, ex4, ex5, ex6, ex7, ex8, ex9, ex15, ex16, ex18, ex19_0, ex19_1, ex19_2, ex19_3, ex19_5, ex19_6, ex19_7, ex20, es0, es1, es4, es6, es9, es10, es11, es12, es13, es14, es15, es2, em, er, ek0 k (show k < 150 by omega), ek1 k (show k < 150 by omega), ek2 k (show k < 150 by omega), ek3 k (show k < 150 by omega), ek4 k (show k < 150 by omega), ek5 k (show k < 150 by omega), ek6 k (show k < 150 by omega), ek7 k (show k < 150 by omega)]; exact qzR_kw h k hk)
    (fun k hk => by rw [ek6 k (by omega)]; obtain ⟨j, hj, e1⟩ := qzR_kg h k hk; exact ⟨j, by omega, e1⟩)
    (fun k hk q => by
      rw [ek3 k (by omega)] at q ⊢
      rw [ek7 k (by omega), ek6 k (by omega)]
      obtain ⟨u, v⟩ := qzR_ko h k hk q
      refine ⟨u, fun j hj hgj => ?_⟩
      have hjp : j ≠ p := fun e1 => hk6 k hk (e1 ▸ hgj)
      rw [hg0 j (by omega), if_neg hjp]
      exact v j (by omega) hgj)
    (fun j hj => by rw [hg0 j (by omega)]; split; exact ⟨1, by omega, by omega, rfl⟩; exact qzR_gs h j (by omega))
    (Or.inr ⟨p, rfl, h82, by rw [hg0 p hp, if_pos rfl], h09.trans hg1.symm, by obtain ⟨E, q1, q2⟩ := hE; exact ⟨E, q1, hg1.trans q2⟩⟩)
    (fun j hj q => by rw [hg0 j (by omega)] at q; by_cases e1 : j = p; (rw [e1]; exact h82); (rw [if_neg e1] at q; exact absurd ((qzR_gu h j (by omega) q).symm.trans h8) (qz_n5 (by omega))))
    (fun k hk q1 _ => by rw [ek6 k (by omega), h82] at q1; exact absurd q1 (hk6 k hk))
    (fun q => absurd rfl q)
    (by
      rcases qzR_wa h with q | ⟨j, h1, h2, h3, h4, L, h5, h6, h7⟩
      · exact Or.inl (es9.trans q)
      · have hne : j ≠ p := by omega
        exact Or.inr ⟨j, by omega, es9.trans h2, by rw [hg0 j (by omega), if_neg hne]; exact h3, ex0_11.trans (h4.trans (eg3 j (by omega)).symm), L, fun _ => h5 hb, h6, (eg3 j (by omega)).trans h7⟩)
    (fun j hj q => by rw [hg0 j (by omega)] at q; by_cases e1 : j = p; (rw [if_pos e1] at q; exact absurd q (by decide)); (rw [if_neg e1] at q; rw [es9]; exact qzR_wu h j (by omega) q))
    (by first | exact qzR_qf h | (simp only [ex0_6, ex0_7, ex0_10, ex0_11, ex1, ex2, ex3, ex4, ex5, ex6, ex7, ex8, ex9, ex15, ex16, ex18, ex19_0, ex19_1, ex19_2, ex19_3, ex19_5, ex19_6, ex19_7, ex20, es0, es1, es4, es6, es9, es10, es11, es12, es13, es14, es15, es2, em, er]; exact qzR_qf h))
    (by first | exact qzR_qe h | (simp only [ex0_6, ex0_7, ex0_10, ex0_11, ex1, ex2, ex3, ex4, ex5, ex6, ex7, ex8, ex9, ex15, ex16, ex18, ex19_0, ex19_1, ex19_2, ex19_3, ex19_5, ex19_6, ex19_7, ex20, es0, es1, es4, es6, es9, es10, es11, es12, es13, es14, es15, es2, em, er]; exact qzR_qe h))
    (by have q := qzR_qb h; exact ⟨q.1, by omega, fun _ => by omega⟩)
    (fun i h1 h2 => by rw [ex16]; obtain ⟨j, q1, q2, q3⟩ := qzR_qs h i h1 h2; exact ⟨j, by omega, q2, by rw [hg0 j (by omega), if_neg (by omega)]; exact q3⟩)
    (by first | exact qzR_qi h | (simp only [ex0_6, ex0_7, ex0_10, ex0_11, ex1, ex2, ex3, ex4, ex5, ex6, ex7, ex8, ex9, ex15, ex16, ex18, ex19_0, ex19_1, ex19_2, ex19_3, ex19_5, ex19_6, ex19_7, ex20, es0, es1, es4, es6, es9, es10, es11, es12, es13, es14, es15, es2, em, er]; exact qzR_qi h))
    (fun j hj q => by rw [hg0 j (by omega)] at q; by_cases e1 : j = p; (rw [if_pos e1] at q; exact absurd q (by decide)); (rw [if_neg e1] at q; rw [ex16]; exact qzR_qc h j (by omega) q))
    (fun c hc => by rw [ex20]; rcases qzR_oc h c hc with ⟨q1, q2⟩ | ⟨k, q1, q2, q3, q4⟩; (exact Or.inl ⟨q1, fun k hk => by rw [ek3 k (by omega), ek0 k (by omega)]; exact q2 k hk⟩); (exact Or.inr ⟨k, q1, q2, (ek0 k (by omega)).trans q3, by rw [ek3 k (by omega)]; exact q4⟩))
    (fun k k2 h1 h2 => by rw [ek0 k (by omega), ek0 k2 (by omega), ek3 k (by omega), ek3 k2 (by omega)]; exact qzR_ou h k k2 h1 h2)
set_option maxHeartbeats 4000000 in
theorem qzo_add (h : qz_R x y n p f e t b) (hx : ∀ i : Nat, i < 21 → i ≠ 1 → i ≠ 2 → i ≠ 3 → i ≠ 4 → i ≠ 5 → i ≠ 6 → i ≠ 7 → i ≠ 8 → i ≠ 9 → i ≠ 12 → i ≠ 13 → i ≠ 19 → i ≠ 20 → x2 i = x i) (hx1 : ∀ s : Nat, s ≠ 8 → x2 1 s = x 1 s) (hx19 : ∀ s : Nat, s ≠ 0 → x2 19 s = x 19 s) (hs : ∀ a : Nat, a < 16 → a ≠ 6 → y2 a = y a) (hg : ∀ j w : Nat, j < 150 → w < 4 → y2 (1216 + 4 * j + w) = y (1216 + 4 * j + w)) {j0 c0 r0 : Nat} {u : Int32} (hn : n < 150) (hb : b ≠ 2) (hj0 : j0 + 1 = p) (h8 : y 8 = nI j0) (hst : y (1216 + 4 * j0 + 0) = 1) (hc0 : c0 < 12) (hr0 : 1 ≤ r0 ∧ r0 ≤ 8) (hu : u = 0 ∨ u = 1) (h18 : x2 1 8 = nI (n + 1)) (h6 : y2 6 = nI (n + 1)) (h190 : x2 19 0 = y2 6) (hkk : ∀ k w : Nat, k < n → w < 8 → y2 (16 + 8 * k + w) = y (16 + 8 * k + w)) (hcn : y2 (16 + 8 * n + 0) = nI c0) (hn1 : y2 (16 + 8 * n + 1) = nI r0) (hn2 : y2 (16 + 8 * n + 2) = u) (hn3 : y2 (16 + 8 * n + 3) = 1) (hn6 : y2 (16 + 8 * n + 6) = nI j0) (hn7 : y2 (16 + 8 * n + 7) = 1) (hxk : ∀ i k : Nat, 2 ≤ i → i ≤ 9 → k ≠ n → x2 i k = x i k) (hxn : ∀ i : Nat, i < 8 → x2 (i + 2) n = y2 (16 + 8 * n + i)) (h12 : ∀ j : Nat, x2 12 j = if j = j0 then x 12 j + 1 else x 12 j) (h13 : ∀ j : Nat, x2 13 j = if j = j0 then x 13 j + nI r0 else x 13 j) (h20 : ∀ c : Nat, x2 20 c = if c = c0 then nI n else x 20 c) (hfree : ∀ k : Nat, k < n → ¬ 4 ≤ y (16 + 8 * k + 3) → y (16 + 8 * k + 0) ≠ nI c0) : qz_R x2 y2 (n + 1) p f e t 0 := by
  have ex0 : x2 0 = x 0 := hx 0 (by decide) (by decide) (by decide) (by decide) (by decide) (by decide) (by decide) (by decide) (by decide) (by decide) (by decide) (by decide) (by decide) (by decide)
  have ex10 : x2 10 = x 10 := hx 10 (by decide) (by decide) (by decide) (by decide) (by decide) (by decide) (by decide) (by decide) (by decide) (by decide) (by decide) (by decide) (by decide) (by decide)
  have ex11 : x2 11 = x 11 := hx 11 (by decide) (by decide) (by decide) (by decide) (by decide) (by decide) (by decide) (by decide) (by decide) (by decide) (by decide) (by decide) (by decide) (by decide)
  have ex14 : x2 14 = x 14 := hx 14 (by decide) (by decide) (by decide) (by decide) (by decide) (by decide) (by decide) (by decide) (by decide) (by decide) (by decide) (by decide) (by decide) (by decide)
  have ex15 : x2 15 = x 15 := hx 15 (by decide) (by decide) (by decide) (by decide) (by decide) (by decide) (by decide) (by decide) (by decide) (by decide) (by decide) (by decide) (by decide) (by decide)
  have ex16 : x2 16 = x 16 := hx 16 (by decide) (by decide) (by decide) (by decide) (by decide) (by decide) (by decide) (by decide) (by decide) (by decide) (by decide) (by decide) (by decide) (by decide)
  have ex18 : x2 18 = x 18 := hx 18 (by decide) (by decide) (by decide) (by decide) (by decide) (by decide) (by decide) (by decide) (by decide) (by decide) (by decide) (by decide) (by decide) (by decide)
  have ex19_1 : x2 19 1 = x 19 1 := hx19 1 (by decide)
  have ex19_2 : x2 19 2 = x 19 2 := hx19 2 (by decide)
  have ex19_3 : x2 19 3 = x 19 3 := hx19 3 (by decide)
  have ex19_4 : x2 19 4 = x 19 4 := hx19 4 (by decide)
  have ex19_5 : x2 19 5 = x 19 5 := hx19 5 (by decide)
  have ex19_6 : x2 19 6 = x 19 6 := hx19 6 (by decide)
  have ex19_7 : x2 19 7 = x 19 7 := hx19 7 (by decide)
  have es0 : y2 0 = y 0 := hs 0 (by decide) (by decide)
  have es1 : y2 1 = y 1 := hs 1 (by decide) (by decide)
  have es4 : y2 4 = y 4 := hs 4 (by decide) (by decide)
  have es7 : y2 7 = y 7 := hs 7 (by decide) (by decide)
  have es8 : y2 8 = y 8 := hs 8 (by decide) (by decide)
  have es9 : y2 9 = y 9 := hs 9 (by decide) (by decide)
  have es10 : y2 10 = y 10 := hs 10 (by decide) (by decide)
  have es11 : y2 11 = y 11 := hs 11 (by decide) (by decide)
  have es12 : y2 12 = y 12 := hs 12 (by decide) (by decide)
  have es13 : y2 13 = y 13 := hs 13 (by decide) (by decide)
  have es14 : y2 14 = y 14 := hs 14 (by decide) (by decide)
  have es15 : y2 15 = y 15 := hs 15 (by decide) (by decide)
  have es2 : y2 2 = y 2 := hs 2 (by decide) (by decide)
  have esS : ∀ i : Nat, i < 4 → y2 (2 + i) = y (2 + i) := fun i hi => hs (2 + i) (by omega) (by omega)
  have eg0 : ∀ j : Nat, j < 150 → y2 (1216 + 4 * j + 0) = y (1216 + 4 * j + 0) := fun j q => hg j 0 q (by decide) 
  have eg1 : ∀ j : Nat, j < 150 → y2 (1216 + 4 * j + 1) = y (1216 + 4 * j + 1) := fun j q => hg j 1 q (by decide) 
  have eg2 : ∀ j : Nat, j < 150 → y2 (1216 + 4 * j + 2) = y (1216 + 4 * j + 2) := fun j q => hg j 2 q (by decide) 
  have eg3 : ∀ j : Nat, j < 150 → y2 (1216 + 4 * j + 3) = y (1216 + 4 * j + 3) := fun j q => hg j 3 q (by decide) 
  have hn0 : n ≤ 150 := qzR_nn h
  have hp0 : p ≤ 150 := (qzR_pn h).1
  have hmb : ∀ j : Nat, j < 150 → (qz_mb y2 n (nI j) ↔ j = j0) := fun j hj => ⟨fun q => by
    have q1 := q.1
    rw [hn6, nI_eq (by omega) (by omega)] at q1
    exact q1.symm, fun q => ⟨by rw [hn6, q], hn7⟩⟩
  have em : ∀ g : Int32, qz_mem y2 n g = qz_mem y n g := fun g => qz_sum_c n (fun k hk => by simp only [qz_mb, hkk k 6 hk (by decide), hkk k 7 hk (by decide)])
  have er : ∀ g : Int32, qz_rec y2 n g = qz_rec y n g := fun g => qz_sum_c n (fun k hk => by simp only [qz_mb, hkk k 1 hk (by decide), hkk k 6 hk (by decide), hkk k 7 hk (by decide)])
  exact qz_R_mk
    (by first | exact qzR_tx h | (simp only [ex0, ex10, ex11, ex14, ex15, ex16, ex18, ex19_1, ex19_2, ex19_3, ex19_4, ex19_5, ex19_6, ex19_7, es0, es1, es4, es7, es8, es9, es10, es11, es12, es13, es14, es15, es2]; exact qzR_tx h))
    (by first | exact qzR_ty h | (simp only [ex0, ex10, ex11, ex14, ex15, ex16, ex18, ex19_1, ex19_2, ex19_3, ex19_4, ex19_5, ex19_6, ex19_7, es0, es1, es4, es7, es8, es9, es10, es11, es12, es13, es14, es15, es2]; exact qzR_ty h))
    (by first | exact qzR_wx h | (simp only [ex0, ex10, ex11, ex14, ex15, ex16, ex18, ex19_1, ex19_2, ex19_3, ex19_4, ex19_5, ex19_6, ex19_7, es0, es1, es4, es7, es8, es9, es10, es11, es12, es13, es14, es15, es2]; exact qzR_wx h))
    (by first | exact qzR_wr h | (simp only [ex0, ex10, ex11, ex14, ex15, ex16, ex18, ex19_1, ex19_2, ex19_3, ex19_4, ex19_5, ex19_6, ex19_7, es0, es1, es4, es7, es8, es9, es10, es11, es12, es13, es14, es15, es2]; exact qzR_wr h))
    (fun i hi => by rw [ex18, esS i hi]; exact qzR_sx h i hi)
    (by first | exact qzR_s0 h | (simp only [ex0, ex10, ex11, ex14, ex15, ex16, ex18, ex19_1, ex19_2, ex19_3, ex19_4, ex19_5, ex19_6, ex19_7, es0, es1, es4, es7, es8, es9, es10, es11, es12, es13, es14, es15, es2]; exact qzR_s0 h))
    (by first | exact qzR_s2 h | (simp only [ex0, ex10, ex11, ex14, ex15, ex16, ex18, ex19_1, ex19_2, ex19_3, ex19_4, ex19_5, ex19_6, ex19_7, es0, es1, es4, es7, es8, es9, es10, es11, es12, es13, es14, es15, es2]; exact qzR_s2 h))
    h18
    h6
    (by omega)
    (by first | exact qzR_px h | (simp only [ex0, ex10, ex11, ex14, ex15, ex16, ex18, ex19_1, ex19_2, ex19_3, ex19_4, ex19_5, ex19_6, ex19_7, es0, es1, es4, es7, es8, es9, es10, es11, es12, es13, es14, es15, es2]; exact qzR_px h))
    (by first | exact qzR_py h | (simp only [ex0, ex10, ex11, ex14, ex15, ex16, ex18, ex19_1, ex19_2, ex19_3, ex19_4, ex19_5, ex19_6, ex19_7, es0, es1, es4, es7, es8, es9, es10, es11, es12, es13, es14, es15, es2]; exact qzR_py h))
    ⟨hp0, by have := (qzR_pn h).2.1; omega, fun _ => (qzR_pn h).2.1⟩
    (by first | exact qzR_gx h | (simp only [ex0, ex10, ex11, ex14, ex15, ex16, ex18, ex19_1, ex19_2, ex19_3, ex19_4, ex19_5, ex19_6, ex19_7, es0, es1, es4, es7, es8, es9, es10, es11, es12, es13, es14, es15, es2]; exact qzR_gx h))
    (by first | exact qzR_vx h | (simp only [ex0, ex10, ex11, ex14, ex15, ex16, ex18, ex19_1, ex19_2, ex19_3, ex19_4, ex19_5, ex19_6, ex19_7, es0, es1, es4, es7, es8, es9, es10, es11, es12, es13, es14, es15, es2]; exact qzR_vx h))
    h190
    (by first | exact qzR_t1 h | (simp only [ex0, ex10, ex11, ex14, ex15, ex16, ex18, ex19_1, ex19_2, ex19_3, ex19_4, ex19_5, ex19_6, ex19_7, es0, es1, es4, es7, es8, es9, es10, es11, es12, es13, es14, es15, es2]; exact qzR_t1 h))
    (by first | exact qzR_t2 h | (simp only [ex0, ex10, ex11, ex14, ex15, ex16, ex18, ex19_1, ex19_2, ex19_3, ex19_4, ex19_5, ex19_6, ex19_7, es0, es1, es4, es7, es8, es9, es10, es11, es12, es13, es14, es15, es2]; exact qzR_t2 h))
    (by first | exact qzR_t3 h | (simp only [ex0, ex10, ex11, ex14, ex15, ex16, ex18, ex19_1, ex19_2, ex19_3, ex19_4, ex19_5, ex19_6, ex19_7, es0, es1, es4, es7, es8, es9, es10, es11, es12, es13, es14, es15, es2]; exact qzR_t3 h))
    (by first | exact qzR_t4 h | (simp only [ex0, ex10, ex11, ex14, ex15, ex16, ex18, ex19_1, ex19_2, ex19_3, ex19_4, ex19_5, ex19_6, ex19_7, es0, es1, es4, es7, es8, es9, es10, es11, es12, es13, es14, es15, es2]; exact qzR_t4 h))
    (by first | exact qzR_t5 h | (simp only [ex0, ex10, ex11, ex14, ex15, ex16, ex18, ex19_1, ex19_2, ex19_3, ex19_4, ex19_5, ex19_6, ex19_7, es0, es1, es4, es7, es8, es9, es10, es11, es12, es13, es14, es15, es2]; exact qzR_t5 h))
    (by first | exact qzR_t6 h | (simp only [ex0, ex10, ex11, ex14, ex15, ex16, ex18, ex19_1, ex19_2, ex19_3, ex19_4, ex19_5, ex19_6, ex19_7, es0, es1, es4, es7, es8, es9, es10, es11, es12, es13, es14, es15, es2]; exact qzR_t6 h))
    (by first | exact qzR_t7 h | (simp only [ex0, ex10, ex11, ex14, ex15, ex16, ex18, ex19_1, ex19_2, ex19_3, ex19_4, ex19_5, ex19_6, ex19_7, es0, es1, es4, es7, es8, es9, es10, es11, es12, es13, es14, es15, es2]; exact qzR_t7 h))
    (fun k hk => by by_cases q : k = n; (rw [q]; exact hxn 0 (by decide)); (rw [hxk 2 k (by decide) (by decide) q, hkk k 0 (by omega) (by decide)]; exact qzR_c2 h k (by omega)))
    (fun k hk => by by_cases q : k = n; (rw [q]; exact hxn 1 (by decide)); (rw [hxk 3 k (by decide) (by decide) q, hkk k 1 (by omega) (by decide)]; exact qzR_c3 h k (by omega)))
    (fun k hk => by by_cases q : k = n; (rw [q]; exact hxn 2 (by decide)); (rw [hxk 4 k (by decide) (by decide) q, hkk k 2 (by omega) (by decide)]; exact qzR_c4 h k (by omega)))
    (fun k hk => by by_cases q : k = n; (rw [q]; exact hxn 3 (by decide)); (rw [hxk 5 k (by decide) (by decide) q, hkk k 3 (by omega) (by decide)]; exact qzR_c5 h k (by omega)))
    (fun k hk => by by_cases q : k = n; (rw [q]; exact hxn 4 (by decide)); (rw [hxk 6 k (by decide) (by decide) q, hkk k 4 (by omega) (by decide)]; exact qzR_c6 h k (by omega)))
    (fun k hk => by by_cases q : k = n; (rw [q]; exact hxn 5 (by decide)); (rw [hxk 7 k (by decide) (by decide) q, hkk k 5 (by omega) (by decide)]; exact qzR_c7 h k (by omega)))
    (fun k hk => by by_cases q : k = n; (rw [q]; exact hxn 6 (by decide)); (rw [hxk 8 k (by decide) (by decide) q, hkk k 6 (by omega) (by decide)]; exact qzR_c8 h k (by omega)))
    (fun k hk => by by_cases q : k = n; (rw [q]; exact hxn 7 (by decide)); (rw [hxk 9 k (by decide) (by decide) q, hkk k 7 (by omega) (by decide)]; exact qzR_c9 h k (by omega)))
    (fun j hj => by simp only [ex0, ex10, ex11, ex14, ex15, ex16, ex18, ex19_1, ex19_2, ex19_3, ex19_4, ex19_5, ex19_6, ex19_7, es0, es1, es4, es7, es8, es9, es10, es11, es12, es13, es14, es15, es2, eg0 j (show j < 150 by omega), eg1 j (show j < 150 by omega), eg2 j (show j < 150 by omega), eg3 j (show j < 150 by omega)]; exact qzR_g11 h j hj)
    (fun j hj => by simp only [ex0, ex10, ex11, ex14, ex15, ex16, ex18, ex19_1, ex19_2, ex19_3, ex19_4, ex19_5, ex19_6, ex19_7, es0, es1, es4, es7, es8, es9, es10, es11, es12, es13, es14, es15, es2, eg0 j (show j < 150 by omega), eg1 j (show j < 150 by omega), eg2 j (show j < 150 by omega), eg3 j (show j < 150 by omega)]; exact qzR_g14 h j hj)
    (fun j hj => by rw [h12, show qz_mem y2 (n + 1) (nI j) = qz_mem y2 n (nI j) + (if qz_mb y2 n (nI j) then 1 else 0) from rfl, em]; by_cases q : j = j0; (rw [if_pos q, if_pos ((hmb j (by omega)).mpr q), qzR_g12 h j hj]); (rw [if_neg q, if_neg (fun q2 => q ((hmb j (by omega)).mp q2)), qzR_g12 h j hj, Int32.add_zero]))
    (fun j hj => by rw [h13, show qz_rec y2 (n + 1) (nI j) = qz_rec y2 n (nI j) + (if qz_mb y2 n (nI j) then y2 (16 + 8 * n + 1) else 0) from rfl, er]; by_cases q : j = j0; (rw [if_pos q, if_pos ((hmb j (by omega)).mpr q), qzR_g13 h j hj, hn1]); (rw [if_neg q, if_neg (fun q2 => q ((hmb j (by omega)).mp q2)), qzR_g13 h j hj, Int32.add_zero]))
    (fun j h1 h2 => by rw [eg2 j h2]; exact qzR_g0 h j h1 h2)
    (fun k hk => by by_cases q : k = n; (rw [q, hxn 2 (by decide), hn2]; exact hu); (rw [hxk 4 k (by decide) (by decide) q]; exact qzR_b4 h k hk))
    (fun k hk => by by_cases q : k = n; (rw [q, hxn 7 (by decide), hn7]; exact Or.inr rfl); (rw [hxk 9 k (by decide) (by decide) q]; exact qzR_b9 h k hk))
    (fun k hk => by by_cases q : k = n; (rw [q]; exact ⟨c0, hc0, hcn⟩); (rw [hkk k 0 (by omega) (by decide)]; exact qzR_kc h k (by omega)))
    (fun k hk => by by_cases q : k = n; (rw [q]; exact ⟨r0, hr0.1, hr0.2, hn1⟩); (rw [hkk k 1 (by omega) (by decide)]; exact qzR_kr h k (by omega)))
    (fun k hk => by by_cases q : k = n; (rw [q]; exact ⟨1, by omega, by omega, hn3⟩); (rw [hkk k 3 (by omega) (by decide)]; exact qzR_kw h k (by omega)))
    (fun k hk => by by_cases q : k = n; (rw [q]; exact ⟨j0, by omega, hn6⟩); (rw [hkk k 6 (by omega) (by decide)]; exact qzR_kg h k (by omega)))
    (fun k hk q => by
      by_cases e1 : k = n
      · rw [e1]
        refine ⟨hn7, fun j hj hgj => ?_⟩
        rw [hn6, nI_eq (by omega) (by omega)] at hgj
        rw [← hgj, eg0 j0 (by omega), hst, hn3]
      · have hk2 : k < n := by omega
        rw [hkk k 3 hk2 (by decide)] at q ⊢
        rw [hkk k 7 hk2 (by decide), hkk k 6 hk2 (by decide)]
        obtain ⟨u1, v1⟩ := qzR_ko h k hk2 q
        exact ⟨u1, fun j hj hgj => by rw [eg0 j (by omega)]; exact v1 j hj hgj⟩)
    (fun j hj => by simp only [ex0, ex10, ex11, ex14, ex15, ex16, ex18, ex19_1, ex19_2, ex19_3, ex19_4, ex19_5, ex19_6, ex19_7, es0, es1, es4, es7, es8, es9, es10, es11, es12, es13, es14, es15, es2, eg0 j (show j < 150 by omega), eg1 j (show j < 150 by omega), eg2 j (show j < 150 by omega), eg3 j (show j < 150 by omega)]; exact qzR_gs h j hj)
    (by rcases qzR_ga h with q | ⟨j, h1, h2, h3, h4, E, h5, h6⟩; (exact Or.inl (es8.trans q)); (exact Or.inr ⟨j, h1, es8.trans h2, (eg0 j (by omega)).trans h3, (congrFun (congrFun rfl 0) 9 |>.trans (by simp only [ex0, ex10, ex11, ex14, ex15, ex16, ex18, ex19_1, ex19_2, ex19_3, ex19_4, ex19_5, ex19_6, ex19_7, es0, es1, es4, es7, es8, es9, es10, es11, es12, es13, es14, es15, es2] : x2 0 9 = x 0 9)).trans (h4.trans (eg1 j (by omega)).symm), E, by omega, (eg1 j (by omega)).trans h6⟩))
    (fun j hj => by simp only [ex0, ex10, ex11, ex14, ex15, ex16, ex18, ex19_1, ex19_2, ex19_3, ex19_4, ex19_5, ex19_6, ex19_7, es0, es1, es4, es7, es8, es9, es10, es11, es12, es13, es14, es15, es2, eg0 j (show j < 150 by omega), eg1 j (show j < 150 by omega), eg2 j (show j < 150 by omega), eg3 j (show j < 150 by omega)]; exact qzR_gu h j hj)
    (fun k hk q1 q2 => by by_cases e1 : k = n; (rw [e1]; exact hn3); (rw [hkk k 6 (by omega) (by decide), es8] at q1; rw [hkk k 7 (by omega) (by decide)] at q2; rw [hkk k 3 (by omega) (by decide)]; exact qzR_gm h k (by omega) q1 q2))
    (fun _ _ => ⟨n, by omega, by rw [hn6, es8, h8], hn7⟩)
    (by
      rcases qzR_wa h with q | ⟨j, h1, h2, h3, h4, L, h5, h6, h7⟩
      · exact Or.inl (es9.trans q)
      · exact Or.inr ⟨j, by omega, es9.trans h2, (eg0 j (by omega)).trans h3, (by rw [ex0] : x2 0 11 = x 0 11).trans (h4.trans (eg3 j (by omega)).symm), L, fun _ => h5 hb, h6, (eg3 j (by omega)).trans h7⟩)
    (fun j hj => by simp only [ex0, ex10, ex11, ex14, ex15, ex16, ex18, ex19_1, ex19_2, ex19_3, ex19_4, ex19_5, ex19_6, ex19_7, es0, es1, es4, es7, es8, es9, es10, es11, es12, es13, es14, es15, es2, eg0 j (show j < 150 by omega), eg1 j (show j < 150 by omega), eg2 j (show j < 150 by omega), eg3 j (show j < 150 by omega)]; exact qzR_wu h j hj)
    (by first | exact qzR_qf h | (simp only [ex0, ex10, ex11, ex14, ex15, ex16, ex18, ex19_1, ex19_2, ex19_3, ex19_4, ex19_5, ex19_6, ex19_7, es0, es1, es4, es7, es8, es9, es10, es11, es12, es13, es14, es15, es2]; exact qzR_qf h))
    (by first | exact qzR_qe h | (simp only [ex0, ex10, ex11, ex14, ex15, ex16, ex18, ex19_1, ex19_2, ex19_3, ex19_4, ex19_5, ex19_6, ex19_7, es0, es1, es4, es7, es8, es9, es10, es11, es12, es13, es14, es15, es2]; exact qzR_qe h))
    (by have q := qzR_qb h; simp only [es8]; exact q)
    (fun i h1 h2 => by rw [ex16]; obtain ⟨j, q1, q2, q3⟩ := qzR_qs h i h1 h2; exact ⟨j, q1, q2, (eg0 j (by omega)).trans q3⟩)
    (by first | exact qzR_qi h | (simp only [ex0, ex10, ex11, ex14, ex15, ex16, ex18, ex19_1, ex19_2, ex19_3, ex19_4, ex19_5, ex19_6, ex19_7, es0, es1, es4, es7, es8, es9, es10, es11, es12, es13, es14, es15, es2]; exact qzR_qi h))
    (fun j hj h2 => by rw [eg0 j (by omega)] at h2; rw [ex16]; exact qzR_qc h j hj h2)
    (fun c hc => by
      rw [h20]
      by_cases e1 : c = c0
      · rw [if_pos e1]
        exact Or.inr ⟨n, by omega, rfl, by rw [hcn, e1], by rw [hn3]; decide⟩
      · rw [if_neg e1]
        rcases qzR_oc h c hc with ⟨q1, q2⟩ | ⟨k, q1, q2, q3, q4⟩
        · refine Or.inl ⟨q1, fun k hk q => ?_⟩
          by_cases e2 : k = n
          · rw [e2, hcn]
            exact fun q3 => e1 ((nI_eq (by omega) (by omega)).mp q3).symm
          · rw [hkk k 3 (by omega) (by decide)] at q
            rw [hkk k 0 (by omega) (by decide)]
            exact q2 k (by omega) q
        · exact Or.inr ⟨k, by omega, q2, (hkk k 0 q1 (by decide)).trans q3, by rw [hkk k 3 q1 (by decide)]; exact q4⟩)
    (fun k k2 h1 h2 q1 q2 q3 => by
      by_cases e1 : k = n
      · by_cases e2 : k2 = n
        · omega
        · rw [e1, hcn, hkk k2 0 (by omega) (by decide)] at q1
          rw [hkk k2 3 (by omega) (by decide)] at q3
          exact absurd q1.symm (hfree k2 (by omega) q3)
      · rw [hkk k 3 (by omega) (by decide)] at q2
        rw [hkk k 0 (by omega) (by decide)] at q1
        by_cases e2 : k2 = n
        · rw [e2, hcn] at q1
          exact absurd q1 (hfree k (by omega) q2)
        · rw [hkk k2 0 (by omega) (by decide)] at q1
          rw [hkk k2 3 (by omega) (by decide)] at q3
          exact qzR_ou h k k2 (by omega) (by omega) q1 q2 q3)
set_option maxHeartbeats 4000000 in
theorem qzo_takeout (h : qz_R x y n p f e t b) (hx : ∀ i : Nat, i < 21 → i ≠ 5 → i ≠ 9 → i ≠ 12 → i ≠ 13 → i ≠ 20 → x2 i = x i) (hs : ∀ a : Nat, a < 16 → y2 a = y a) (hk : ∀ k w : Nat, k < 150 → w < 8 → w ≠ 3 → w ≠ 7 → y2 (16 + 8 * k + w) = y (16 + 8 * k + w)) (hg : ∀ j w : Nat, j < 150 → w < 4 → y2 (1216 + 4 * j + w) = y (1216 + 4 * j + w)) {k0 c0 j0 : Nat} {w0 : Int32} (hb : b ≠ 2) (hk0 : k0 < n) (hc0 : c0 < 12) (hj0 : j0 < p) (h8 : y 8 = nI j0) (hcl : y (16 + 8 * k0 + 0) = nI c0) (hw1 : y (16 + 8 * k0 + 3) = 1) (hg6 : y (16 + 8 * k0 + 6) = nI j0) (hg7 : y (16 + 8 * k0 + 7) = 1) (hw0 : w0 = 5 ∨ w0 = 6) (h5 : ∀ k : Nat, x2 5 k = if k = k0 then w0 else x 5 k) (h9 : ∀ k : Nat, x2 9 k = if k = k0 then 0 else x 9 k) (h12 : ∀ j : Nat, x2 12 j = if j = j0 then x 12 j - 1 else x 12 j) (h13 : ∀ j : Nat, x2 13 j = if j = j0 then x 13 j - y (16 + 8 * k0 + 1) else x 13 j) (h20 : ∀ c : Nat, x2 20 c = if c = c0 then -5 else x 20 c) (h3 : ∀ k : Nat, k < 150 → y2 (16 + 8 * k + 3) = if k = k0 then w0 else y (16 + 8 * k + 3)) (h7 : ∀ k : Nat, k < 150 → y2 (16 + 8 * k + 7) = if k = k0 then 0 else y (16 + 8 * k + 7)) : qz_R x2 y2 n p f e t 1 := by
  have ex0 : x2 0 = x 0 := hx 0 (by decide) (by decide) (by decide) (by decide) (by decide) (by decide)
  have ex1 : x2 1 = x 1 := hx 1 (by decide) (by decide) (by decide) (by decide) (by decide) (by decide)
  have ex2 : x2 2 = x 2 := hx 2 (by decide) (by decide) (by decide) (by decide) (by decide) (by decide)
  have ex3 : x2 3 = x 3 := hx 3 (by decide) (by decide) (by decide) (by decide) (by decide) (by decide)
  have ex4 : x2 4 = x 4 := hx 4 (by decide) (by decide) (by decide) (by decide) (by decide) (by decide)
  have ex6 : x2 6 = x 6 := hx 6 (by decide) (by decide) (by decide) (by decide) (by decide) (by decide)
  have ex7 : x2 7 = x 7 := hx 7 (by decide) (by decide) (by decide) (by decide) (by decide) (by decide)
  have ex8 : x2 8 = x 8 := hx 8 (by decide) (by decide) (by decide) (by decide) (by decide) (by decide)
  have ex10 : x2 10 = x 10 := hx 10 (by decide) (by decide) (by decide) (by decide) (by decide) (by decide)
  have ex11 : x2 11 = x 11 := hx 11 (by decide) (by decide) (by decide) (by decide) (by decide) (by decide)
  have ex14 : x2 14 = x 14 := hx 14 (by decide) (by decide) (by decide) (by decide) (by decide) (by decide)
  have ex15 : x2 15 = x 15 := hx 15 (by decide) (by decide) (by decide) (by decide) (by decide) (by decide)
  have ex16 : x2 16 = x 16 := hx 16 (by decide) (by decide) (by decide) (by decide) (by decide) (by decide)
  have ex18 : x2 18 = x 18 := hx 18 (by decide) (by decide) (by decide) (by decide) (by decide) (by decide)
  have ex19 : x2 19 = x 19 := hx 19 (by decide) (by decide) (by decide) (by decide) (by decide) (by decide)
  have es0 : y2 0 = y 0 := hs 0 (by decide) 
  have es1 : y2 1 = y 1 := hs 1 (by decide) 
  have es4 : y2 4 = y 4 := hs 4 (by decide) 
  have es6 : y2 6 = y 6 := hs 6 (by decide) 
  have es7 : y2 7 = y 7 := hs 7 (by decide) 
  have es8 : y2 8 = y 8 := hs 8 (by decide) 
  have es9 : y2 9 = y 9 := hs 9 (by decide) 
  have es10 : y2 10 = y 10 := hs 10 (by decide) 
  have es11 : y2 11 = y 11 := hs 11 (by decide) 
  have es12 : y2 12 = y 12 := hs 12 (by decide) 
  have es13 : y2 13 = y 13 := hs 13 (by decide) 
  have es14 : y2 14 = y 14 := hs 14 (by decide) 
  have es15 : y2 15 = y 15 := hs 15 (by decide) 
  have es2 : y2 2 = y 2 := hs 2 (by decide) 
  have esS : ∀ i : Nat, i < 4 → y2 (2 + i) = y (2 + i) := fun i hi => hs (2 + i) (by omega) 
  have ek0 : ∀ k : Nat, k < 150 → y2 (16 + 8 * k + 0) = y (16 + 8 * k + 0) := fun k q => hk k 0 q (by decide) (by decide) (by decide)
  have ek1 : ∀ k : Nat, k < 150 → y2 (16 + 8 * k + 1) = y (16 + 8 * k + 1) := fun k q => hk k 1 q (by decide) (by decide) (by decide)
  have ek2 : ∀ k : Nat, k < 150 → y2 (16 + 8 * k + 2) = y (16 + 8 * k + 2) := fun k q => hk k 2 q (by decide) (by decide) (by decide)
  have ek4 : ∀ k : Nat, k < 150 → y2 (16 + 8 * k + 4) = y (16 + 8 * k + 4) := fun k q => hk k 4 q (by decide) (by decide) (by decide)
  have ek5 : ∀ k : Nat, k < 150 → y2 (16 + 8 * k + 5) = y (16 + 8 * k + 5) := fun k q => hk k 5 q (by decide) (by decide) (by decide)
  have ek6 : ∀ k : Nat, k < 150 → y2 (16 + 8 * k + 6) = y (16 + 8 * k + 6) := fun k q => hk k 6 q (by decide) (by decide) (by decide)
  have eg0 : ∀ j : Nat, j < 150 → y2 (1216 + 4 * j + 0) = y (1216 + 4 * j + 0) := fun j q => hg j 0 q (by decide) 
  have eg1 : ∀ j : Nat, j < 150 → y2 (1216 + 4 * j + 1) = y (1216 + 4 * j + 1) := fun j q => hg j 1 q (by decide) 
  have eg2 : ∀ j : Nat, j < 150 → y2 (1216 + 4 * j + 2) = y (1216 + 4 * j + 2) := fun j q => hg j 2 q (by decide) 
  have eg3 : ∀ j : Nat, j < 150 → y2 (1216 + 4 * j + 3) = y (1216 + 4 * j + 3) := fun j q => hg j 3 q (by decide) 
  have hn0 : n ≤ 150 := qzR_nn h
  have hp0 : p ≤ 150 := (qzR_pn h).1
  have hw4 : ¬ ¬ (4 : Int32) ≤ w0 := by
    rcases hw0 with q | q <;> rw [q] <;> decide
  have hop : ¬ 4 ≤ y (16 + 8 * k0 + 3) := by rw [hw1]; decide
  have hop2 : ∀ k : Nat, k < 150 → ¬ 4 ≤ y2 (16 + 8 * k + 3) → k ≠ k0 ∧ ¬ 4 ≤ y (16 + 8 * k + 3) := by
    intro k hk q
    rw [h3 k hk] at q
    by_cases e : k = k0
    · rw [if_pos e] at q; exact absurd q hw4
    · rw [if_neg e] at q; exact ⟨e, q⟩
  have h3n : ∀ k : Nat, k < 150 → k ≠ k0 → y2 (16 + 8 * k + 3) = y (16 + 8 * k + 3) := fun k hk e => by rw [h3 k hk, if_neg e]
  have h7n : ∀ k : Nat, k < 150 → k ≠ k0 → y2 (16 + 8 * k + 7) = y (16 + 8 * k + 7) := fun k hk e => by rw [h7 k hk, if_neg e]
  have h70 : y2 (16 + 8 * k0 + 7) = 0 := by rw [h7 k0 (by omega), if_pos rfl]
  have hmb : ∀ j : Nat, j < 150 → (qz_mb y k0 (nI j) ↔ j = j0) := fun j hj => ⟨fun q => by
    have q1 := q.1
    rw [hg6, nI_eq (by omega) (by omega)] at q1
    exact q1.symm, fun q => ⟨by rw [hg6, q], hg7⟩⟩
  have hmb2 : ∀ g : Int32, ¬ qz_mb y2 k0 g := fun g q => by
    have q2 := q.2
    rw [h70] at q2
    exact absurd q2 (by decide)
  have em : ∀ j : Nat, j < 150 → qz_mem y2 n (nI j) = if j = j0 then qz_mem y n (nI j) - 1 else qz_mem y n (nI j) := fun j hj => by
    have q := qz_sum_u (f := fun k => if qz_mb y k (nI j) then 1 else 0) (g := fun k => if qz_mb y2 k (nI j) then 1 else 0) hk0 (fun k hk hne => by simp only [qz_mb, ek6 k (by omega), h7n k (by omega) hne])
    show qz_sum _ n = _
    rw [q]
    show qz_mem y n (nI j) + ((if qz_mb y2 k0 (nI j) then 1 else 0) - (if qz_mb y k0 (nI j) then 1 else 0)) = _
    rw [if_neg (hmb2 _)]
    by_cases e1 : j = j0
    · rw [if_pos ((hmb j hj).mpr e1), if_pos e1]; grind
    · rw [if_neg (fun q2 => e1 ((hmb j hj).mp q2)), if_neg e1]; grind
  have er : ∀ j : Nat, j < 150 → qz_rec y2 n (nI j) = if j = j0 then qz_rec y n (nI j) - y (16 + 8 * k0 + 1) else qz_rec y n (nI j) := fun j hj => by
    have q := qz_sum_u (f := fun k => if qz_mb y k (nI j) then y (16 + 8 * k + 1) else 0) (g := fun k => if qz_mb y2 k (nI j) then y2 (16 + 8 * k + 1) else 0) hk0 (fun k hk hne => by simp only [qz_mb, ek1 k (by omega), ek6 k (by omega), h7n k (by omega) hne])
    show qz_sum _ n = _
    rw [q]
    show qz_rec y n (nI j) + ((if qz_mb y2 k0 (nI j) then y2 (16 + 8 * k0 + 1) else 0) - (if qz_mb y k0 (nI j) then y (16 + 8 * k0 + 1) else 0)) = _
    rw [if_neg (hmb2 _)]
    by_cases e1 : j = j0
    · rw [if_pos ((hmb j hj).mpr e1), if_pos e1]; grind
    · rw [if_neg (fun q2 => e1 ((hmb j hj).mp q2)), if_neg e1]; grind
  exact qz_R_mk
    (by first | exact qzR_tx h | (simp only [ex0, ex1, ex2, ex3, ex4, ex6, ex7, ex8, ex10, ex11, ex14, ex15, ex16, ex18, ex19, es0, es1, es4, es6, es7, es8, es9, es10, es11, es12, es13, es14, es15, es2]; exact qzR_tx h))
    (by first | exact qzR_ty h | (simp only [ex0, ex1, ex2, ex3, ex4, ex6, ex7, ex8, ex10, ex11, ex14, ex15, ex16, ex18, ex19, es0, es1, es4, es6, es7, es8, es9, es10, es11, es12, es13, es14, es15, es2]; exact qzR_ty h))
    (by first | exact qzR_wx h | (simp only [ex0, ex1, ex2, ex3, ex4, ex6, ex7, ex8, ex10, ex11, ex14, ex15, ex16, ex18, ex19, es0, es1, es4, es6, es7, es8, es9, es10, es11, es12, es13, es14, es15, es2]; exact qzR_wx h))
    (by first | exact qzR_wr h | (simp only [ex0, ex1, ex2, ex3, ex4, ex6, ex7, ex8, ex10, ex11, ex14, ex15, ex16, ex18, ex19, es0, es1, es4, es6, es7, es8, es9, es10, es11, es12, es13, es14, es15, es2]; exact qzR_wr h))
    (fun i hi => by rw [ex18, esS i hi]; exact qzR_sx h i hi)
    (by first | exact qzR_s0 h | (simp only [ex0, ex1, ex2, ex3, ex4, ex6, ex7, ex8, ex10, ex11, ex14, ex15, ex16, ex18, ex19, es0, es1, es4, es6, es7, es8, es9, es10, es11, es12, es13, es14, es15, es2]; exact qzR_s0 h))
    (by first | exact qzR_s2 h | (simp only [ex0, ex1, ex2, ex3, ex4, ex6, ex7, ex8, ex10, ex11, ex14, ex15, ex16, ex18, ex19, es0, es1, es4, es6, es7, es8, es9, es10, es11, es12, es13, es14, es15, es2]; exact qzR_s2 h))
    (by first | exact qzR_nx h | (simp only [ex0, ex1, ex2, ex3, ex4, ex6, ex7, ex8, ex10, ex11, ex14, ex15, ex16, ex18, ex19, es0, es1, es4, es6, es7, es8, es9, es10, es11, es12, es13, es14, es15, es2]; exact qzR_nx h))
    (by first | exact qzR_ny h | (simp only [ex0, ex1, ex2, ex3, ex4, ex6, ex7, ex8, ex10, ex11, ex14, ex15, ex16, ex18, ex19, es0, es1, es4, es6, es7, es8, es9, es10, es11, es12, es13, es14, es15, es2]; exact qzR_ny h))
    (by first | exact qzR_nn h | (simp only [ex0, ex1, ex2, ex3, ex4, ex6, ex7, ex8, ex10, ex11, ex14, ex15, ex16, ex18, ex19, es0, es1, es4, es6, es7, es8, es9, es10, es11, es12, es13, es14, es15, es2]; exact qzR_nn h))
    (by first | exact qzR_px h | (simp only [ex0, ex1, ex2, ex3, ex4, ex6, ex7, ex8, ex10, ex11, ex14, ex15, ex16, ex18, ex19, es0, es1, es4, es6, es7, es8, es9, es10, es11, es12, es13, es14, es15, es2]; exact qzR_px h))
    (by first | exact qzR_py h | (simp only [ex0, ex1, ex2, ex3, ex4, ex6, ex7, ex8, ex10, ex11, ex14, ex15, ex16, ex18, ex19, es0, es1, es4, es6, es7, es8, es9, es10, es11, es12, es13, es14, es15, es2]; exact qzR_py h))
    ⟨hp0, (qzR_pn h).2.1, fun q => absurd rfl q⟩
    (by first | exact qzR_gx h | (simp only [ex0, ex1, ex2, ex3, ex4, ex6, ex7, ex8, ex10, ex11, ex14, ex15, ex16, ex18, ex19, es0, es1, es4, es6, es7, es8, es9, es10, es11, es12, es13, es14, es15, es2]; exact qzR_gx h))
    (by first | exact qzR_vx h | (simp only [ex0, ex1, ex2, ex3, ex4, ex6, ex7, ex8, ex10, ex11, ex14, ex15, ex16, ex18, ex19, es0, es1, es4, es6, es7, es8, es9, es10, es11, es12, es13, es14, es15, es2]; exact qzR_vx h))
    (by first | exact qzR_t0 h | (simp only [ex0, ex1, ex2, ex3, ex4, ex6, ex7, ex8, ex10, ex11, ex14, ex15, ex16, ex18, ex19, es0, es1, es4, es6, es7, es8, es9, es10, es11, es12, es13, es14, es15, es2]; exact qzR_t0 h))
    (by first | exact qzR_t1 h | (simp only [ex0, ex1, ex2, ex3, ex4, ex6, ex7, ex8, ex10, ex11, ex14, ex15, ex16, ex18, ex19, es0, es1, es4, es6, es7, es8, es9, es10, es11, es12, es13, es14, es15, es2]; exact qzR_t1 h))
    (by first | exact qzR_t2 h | (simp only [ex0, ex1, ex2, ex3, ex4, ex6, ex7, ex8, ex10, ex11, ex14, ex15, ex16, ex18, ex19, es0, es1, es4, es6, es7, es8, es9, es10, es11, es12, es13, es14, es15, es2]; exact qzR_t2 h))
    (by first | exact qzR_t3 h | (simp only [ex0, ex1, ex2, ex3, ex4, ex6, ex7, ex8, ex10, ex11, ex14, ex15, ex16, ex18, ex19, es0, es1, es4, es6, es7, es8, es9, es10, es11, es12, es13, es14, es15, es2]; exact qzR_t3 h))
    (by first | exact qzR_t4 h | (simp only [ex0, ex1, ex2, ex3, ex4, ex6, ex7, ex8, ex10, ex11, ex14, ex15, ex16, ex18, ex19, es0, es1, es4, es6, es7, es8, es9, es10, es11, es12, es13, es14, es15, es2]; exact qzR_t4 h))
    (by first | exact qzR_t5 h | (simp only [ex0, ex1, ex2, ex3, ex4, ex6, ex7, ex8, ex10, ex11, ex14, ex15, ex16, ex18, ex19, es0, es1, es4, es6, es7, es8, es9, es10, es11, es12, es13, es14, es15, es2]; exact qzR_t5 h))
    (by first | exact qzR_t6 h | (simp only [ex0, ex1, ex2, ex3, ex4, ex6, ex7, ex8, ex10, ex11, ex14, ex15, ex16, ex18, ex19, es0, es1, es4, es6, es7, es8, es9, es10, es11, es12, es13, es14, es15, es2]; exact qzR_t6 h))
    (by first | exact qzR_t7 h | (simp only [ex0, ex1, ex2, ex3, ex4, ex6, ex7, ex8, ex10, ex11, ex14, ex15, ex16, ex18, ex19, es0, es1, es4, es6, es7, es8, es9, es10, es11, es12, es13, es14, es15, es2]; exact qzR_t7 h))
    (fun k hk => by simp only [ex0, ex1, ex2, ex3, ex4, ex6, ex7, ex8, ex10, ex11, ex14, ex15, ex16, ex18, ex19, es0, es1, es4, es6, es7, es8, es9, es10, es11, es12, es13, es14, es15, es2, ek0 k (show k < 150 by omega), ek1 k (show k < 150 by omega), ek2 k (show k < 150 by omega), ek4 k (show k < 150 by omega), ek5 k (show k < 150 by omega), ek6 k (show k < 150 by omega)]; exact qzR_c2 h k hk)
    (fun k hk => by simp only [ex0, ex1, ex2, ex3, ex4, ex6, ex7, ex8, ex10, ex11, ex14, ex15, ex16, ex18, ex19, es0, es1, es4, es6, es7, es8, es9, es10, es11, es12, es13, es14, es15, es2, ek0 k (show k < 150 by omega), ek1 k (show k < 150 by omega), ek2 k (show k < 150 by omega), ek4 k (show k < 150 by omega), ek5 k (show k < 150 by omega), ek6 k (show k < 150 by omega)]; exact qzR_c3 h k hk)
    (fun k hk => by simp only [ex0, ex1, ex2, ex3, ex4, ex6, ex7, ex8, ex10, ex11, ex14, ex15, ex16, ex18, ex19, es0, es1, es4, es6, es7, es8, es9, es10, es11, es12, es13, es14, es15, es2, ek0 k (show k < 150 by omega), ek1 k (show k < 150 by omega), ek2 k (show k < 150 by omega), ek4 k (show k < 150 by omega), ek5 k (show k < 150 by omega), ek6 k (show k < 150 by omega)]; exact qzR_c4 h k hk)
    (fun k hk => by rw [h5, h3 k (by omega)]; split; rfl; exact qzR_c5 h k hk)
    (fun k hk => by simp only [ex0, ex1, ex2, ex3, ex4, ex6, ex7, ex8, ex10, ex11, ex14, ex15, ex16, ex18, ex19, es0, es1, es4, es6, es7, es8, es9, es10, es11, es12, es13, es14, es15, es2, ek0 k (show k < 150 by omega), ek1 k (show k < 150 by omega), ek2 k (show k < 150 by omega), ek4 k (show k < 150 by omega), ek5 k (show k < 150 by omega), ek6 k (show k < 150 by omega)]; exact qzR_c6 h k hk)
    (fun k hk => by simp only [ex0, ex1, ex2, ex3, ex4, ex6, ex7, ex8, ex10, ex11, ex14, ex15, ex16, ex18, ex19, es0, es1, es4, es6, es7, es8, es9, es10, es11, es12, es13, es14, es15, es2, ek0 k (show k < 150 by omega), ek1 k (show k < 150 by omega), ek2 k (show k < 150 by omega), ek4 k (show k < 150 by omega), ek5 k (show k < 150 by omega), ek6 k (show k < 150 by omega)]; exact qzR_c7 h k hk)
    (fun k hk => by simp only [ex0, ex1, ex2, ex3, ex4, ex6, ex7, ex8, ex10, ex11, ex14, ex15, ex16, ex18, ex19, es0, es1, es4, es6, es7, es8, es9, es10, es11, es12, es13, es14, es15, es2, ek0 k (show k < 150 by omega), ek1 k (show k < 150 by omega), ek2 k (show k < 150 by omega), ek4 k (show k < 150 by omega), ek5 k (show k < 150 by omega), ek6 k (show k < 150 by omega)]; exact qzR_c8 h k hk)
    (fun k hk => by rw [h9, h7 k (by omega)]; split; rfl; exact qzR_c9 h k hk)
    (fun j hj => by simp only [ex0, ex1, ex2, ex3, ex4, ex6, ex7, ex8, ex10, ex11, ex14, ex15, ex16, ex18, ex19, es0, es1, es4, es6, es7, es8, es9, es10, es11, es12, es13, es14, es15, es2, eg0 j (show j < 150 by omega), eg1 j (show j < 150 by omega), eg2 j (show j < 150 by omega), eg3 j (show j < 150 by omega)]; exact qzR_g11 h j hj)
    (fun j hj => by simp only [ex0, ex1, ex2, ex3, ex4, ex6, ex7, ex8, ex10, ex11, ex14, ex15, ex16, ex18, ex19, es0, es1, es4, es6, es7, es8, es9, es10, es11, es12, es13, es14, es15, es2, eg0 j (show j < 150 by omega), eg1 j (show j < 150 by omega), eg2 j (show j < 150 by omega), eg3 j (show j < 150 by omega)]; exact qzR_g14 h j hj)
    (fun j hj => by rw [h12, em j (by omega), qzR_g12 h j hj])
    (fun j hj => by rw [h13, er j (by omega), qzR_g13 h j hj])
    (fun j h1 h2 => by rw [eg2 j h2]; exact qzR_g0 h j h1 h2)
    (by first | exact qzR_b4 h | (simp only [ex0, ex1, ex2, ex3, ex4, ex6, ex7, ex8, ex10, ex11, ex14, ex15, ex16, ex18, ex19, es0, es1, es4, es6, es7, es8, es9, es10, es11, es12, es13, es14, es15, es2]; exact qzR_b4 h))
    (fun k hk => by rw [h9]; split; exact Or.inl rfl; exact qzR_b9 h k hk)
    (fun k hk => by simp only [ex0, ex1, ex2, ex3, ex4, ex6, ex7, ex8, ex10, ex11, ex14, ex15, ex16, ex18, ex19, es0, es1, es4, es6, es7, es8, es9, es10, es11, es12, es13, es14, es15, es2, ek0 k (show k < 150 by omega), ek1 k (show k < 150 by omega), ek2 k (show k < 150 by omega), ek4 k (show k < 150 by omega), ek5 k (show k < 150 by omega), ek6 k (show k < 150 by omega)]; exact qzR_kc h k hk)
    (fun k hk => by simp only [ex0, ex1, ex2, ex3, ex4, ex6, ex7, ex8, ex10, ex11, ex14, ex15, ex16, ex18, ex19, es0, es1, es4, es6, es7, es8, es9, es10, es11, es12, es13, es14, es15, es2, ek0 k (show k < 150 by omega), ek1 k (show k < 150 by omega), ek2 k (show k < 150 by omega), ek4 k (show k < 150 by omega), ek5 k (show k < 150 by omega), ek6 k (show k < 150 by omega)]; exact qzR_kr h k hk)
    (fun k hk => by rw [h3 k (by omega)]; split; (rcases hw0 with q | q; exact ⟨5, by omega, by omega, q⟩; exact ⟨6, by omega, by omega, q⟩); exact qzR_kw h k hk)
    (fun k hk => by simp only [ex0, ex1, ex2, ex3, ex4, ex6, ex7, ex8, ex10, ex11, ex14, ex15, ex16, ex18, ex19, es0, es1, es4, es6, es7, es8, es9, es10, es11, es12, es13, es14, es15, es2, ek0 k (show k < 150 by omega), ek1 k (show k < 150 by omega), ek2 k (show k < 150 by omega), ek4 k (show k < 150 by omega), ek5 k (show k < 150 by omega), ek6 k (show k < 150 by omega)]; exact qzR_kg h k hk)
    (fun k hk q => by obtain ⟨a, c⟩ := hop2 k (by omega) q; obtain ⟨u, v⟩ := qzR_ko h k hk c; rw [h3n k (by omega) a, h7n k (by omega) a, ek6 k (by omega)]; exact ⟨u, fun j hj hg => by rw [eg0 j (by omega)]; exact v j hj hg⟩)
    (fun j hj => by simp only [ex0, ex1, ex2, ex3, ex4, ex6, ex7, ex8, ex10, ex11, ex14, ex15, ex16, ex18, ex19, es0, es1, es4, es6, es7, es8, es9, es10, es11, es12, es13, es14, es15, es2, eg0 j (show j < 150 by omega), eg1 j (show j < 150 by omega), eg2 j (show j < 150 by omega), eg3 j (show j < 150 by omega)]; exact qzR_gs h j hj)
    (by rcases qzR_ga h with q | ⟨j, h1, h2, h3, h4, E, h5, h6⟩; (exact Or.inl (es8.trans q)); (exact Or.inr ⟨j, h1, es8.trans h2, (eg0 j (by omega)).trans h3, (congrFun (congrFun rfl 0) 9 |>.trans (by simp only [ex0, ex1, ex2, ex3, ex4, ex6, ex7, ex8, ex10, ex11, ex14, ex15, ex16, ex18, ex19, es0, es1, es4, es6, es7, es8, es9, es10, es11, es12, es13, es14, es15, es2] : x2 0 9 = x 0 9)).trans (h4.trans (eg1 j (by omega)).symm), E, by omega, (eg1 j (by omega)).trans h6⟩))
    (fun j hj => by simp only [ex0, ex1, ex2, ex3, ex4, ex6, ex7, ex8, ex10, ex11, ex14, ex15, ex16, ex18, ex19, es0, es1, es4, es6, es7, es8, es9, es10, es11, es12, es13, es14, es15, es2, eg0 j (show j < 150 by omega), eg1 j (show j < 150 by omega), eg2 j (show j < 150 by omega), eg3 j (show j < 150 by omega)]; exact qzR_gu h j hj)
    (fun k hk q1 q2 => by by_cases e1 : k = k0; (rw [e1, h70] at q2; exact absurd q2 (by decide)); (rw [ek6 k (by omega), es8] at q1; rw [h7n k (by omega) e1] at q2; rw [h3n k (by omega) e1]; exact qzR_gm h k hk q1 q2))
    (fun q => absurd rfl q)
    (by
      rcases qzR_wa h with q | ⟨j, h1, h2, h3, h4, L, h5, h6, h7⟩
      · exact Or.inl (es9.trans q)
      · exact Or.inr ⟨j, by omega, es9.trans h2, (eg0 j (by omega)).trans h3, (by rw [ex0] : x2 0 11 = x 0 11).trans (h4.trans (eg3 j (by omega)).symm), L, fun _ => h5 hb, h6, (eg3 j (by omega)).trans h7⟩)
    (fun j hj => by simp only [ex0, ex1, ex2, ex3, ex4, ex6, ex7, ex8, ex10, ex11, ex14, ex15, ex16, ex18, ex19, es0, es1, es4, es6, es7, es8, es9, es10, es11, es12, es13, es14, es15, es2, eg0 j (show j < 150 by omega), eg1 j (show j < 150 by omega), eg2 j (show j < 150 by omega), eg3 j (show j < 150 by omega)]; exact qzR_wu h j hj)
    (by first | exact qzR_qf h | (simp only [ex0, ex1, ex2, ex3, ex4, ex6, ex7, ex8, ex10, ex11, ex14, ex15, ex16, ex18, ex19, es0, es1, es4, es6, es7, es8, es9, es10, es11, es12, es13, es14, es15, es2]; exact qzR_qf h))
    (by first | exact qzR_qe h | (simp only [ex0, ex1, ex2, ex3, ex4, ex6, ex7, ex8, ex10, ex11, ex14, ex15, ex16, ex18, ex19, es0, es1, es4, es6, es7, es8, es9, es10, es11, es12, es13, es14, es15, es2]; exact qzR_qe h))
    (by have q := qzR_qb h; simp only [es8]; exact q)
    (fun i h1 h2 => by rw [ex16]; obtain ⟨j, q1, q2, q3⟩ := qzR_qs h i h1 h2; exact ⟨j, q1, q2, (eg0 j (by omega)).trans q3⟩)
    (by first | exact qzR_qi h | (simp only [ex0, ex1, ex2, ex3, ex4, ex6, ex7, ex8, ex10, ex11, ex14, ex15, ex16, ex18, ex19, es0, es1, es4, es6, es7, es8, es9, es10, es11, es12, es13, es14, es15, es2]; exact qzR_qi h))
    (fun j hj h2 => by rw [eg0 j (by omega)] at h2; rw [ex16]; exact qzR_qc h j hj h2)
    (fun c hc => by
      rw [h20]
      by_cases e : c = c0
      · rw [if_pos e]
        refine Or.inl ⟨rfl, fun k hk q => ?_⟩
        obtain ⟨a, d⟩ := hop2 k (by omega) q
        rw [ek0 k (by omega)]
        intro q2
        exact a (qzR_ou h k k0 hk hk0 (by rw [q2, e, hcl]) d hop)
      · rw [if_neg e]
        rcases qzR_oc h c hc with ⟨q1, q2⟩ | ⟨k, q1, q2, q3, q4⟩
        · refine Or.inl ⟨q1, fun k hk q => ?_⟩
          rw [ek0 k (by omega)]
          exact q2 k hk (hop2 k (by omega) q).2
        · have hne : k ≠ k0 := fun q => e (by rw [q, hcl] at q3; exact ((nI_eq (by omega) (by omega)).mp q3).symm)
          exact Or.inr ⟨k, q1, q2, (ek0 k (by omega)).trans q3, by rw [h3n k (by omega) hne]; exact q4⟩)
    (fun k k2 h1 h2 q1 q2 q3 => by rw [ek0 k (by omega), ek0 k2 (by omega)] at q1; exact qzR_ou h k k2 h1 h2 q1 (hop2 k (by omega) q2).2 (hop2 k2 (by omega) q3).2)
set_option maxHeartbeats 4000000 in
theorem qzo_gone (h : qz_R x y n p f e t b) (hx : ∀ i : Nat, i < 21 → i ≠ 0 → i ≠ 11 → x2 i = x i) (hx0 : ∀ s : Nat, s ≠ 8 → x2 0 s = x 0 s) (hs : ∀ a : Nat, a < 16 → a ≠ 8 → y2 a = y a) (hk : ∀ k w : Nat, k < 150 → w < 8 → y2 (16 + 8 * k + w) = y (16 + 8 * k + w)) (hg : ∀ j w : Nat, j < 150 → w < 4 → w ≠ 0 → y2 (1216 + 4 * j + w) = y (1216 + 4 * j + w)) {j0 : Nat} (hb : b ≠ 2) (hpn : p ≤ n) (hj0 : j0 + 1 = p) (h8 : y 8 = nI j0) (hst : y (1216 + 4 * j0 + 0) = 1) (hno : ∀ k : Nat, k < n → ¬ qz_mb y k (nI j0)) (h08 : x2 0 8 = -5) (h82 : y2 8 = -5) (h11 : ∀ j : Nat, x2 11 j = if j = j0 then 5 else x 11 j) (hg0 : ∀ j : Nat, j < 150 → y2 (1216 + 4 * j + 0) = if j = j0 then 5 else y (1216 + 4 * j + 0)) : qz_R x2 y2 n p f e t 0 := by
  have ex0_6 : x2 0 6 = x 0 6 := hx0 6 (by decide)
  have ex0_7 : x2 0 7 = x 0 7 := hx0 7 (by decide)
  have ex0_9 : x2 0 9 = x 0 9 := hx0 9 (by decide)
  have ex0_10 : x2 0 10 = x 0 10 := hx0 10 (by decide)
  have ex0_11 : x2 0 11 = x 0 11 := hx0 11 (by decide)
  have ex1 : x2 1 = x 1 := hx 1 (by decide) (by decide) (by decide)
  have ex2 : x2 2 = x 2 := hx 2 (by decide) (by decide) (by decide)
  have ex3 : x2 3 = x 3 := hx 3 (by decide) (by decide) (by decide)
  have ex4 : x2 4 = x 4 := hx 4 (by decide) (by decide) (by decide)
  have ex5 : x2 5 = x 5 := hx 5 (by decide) (by decide) (by decide)
  have ex6 : x2 6 = x 6 := hx 6 (by decide) (by decide) (by decide)
  have ex7 : x2 7 = x 7 := hx 7 (by decide) (by decide) (by decide)
  have ex8 : x2 8 = x 8 := hx 8 (by decide) (by decide) (by decide)
  have ex9 : x2 9 = x 9 := hx 9 (by decide) (by decide) (by decide)
  have ex10 : x2 10 = x 10 := hx 10 (by decide) (by decide) (by decide)
  have ex12 : x2 12 = x 12 := hx 12 (by decide) (by decide) (by decide)
  have ex13 : x2 13 = x 13 := hx 13 (by decide) (by decide) (by decide)
  have ex14 : x2 14 = x 14 := hx 14 (by decide) (by decide) (by decide)
  have ex15 : x2 15 = x 15 := hx 15 (by decide) (by decide) (by decide)
  have ex16 : x2 16 = x 16 := hx 16 (by decide) (by decide) (by decide)
  have ex18 : x2 18 = x 18 := hx 18 (by decide) (by decide) (by decide)
  have ex19 : x2 19 = x 19 := hx 19 (by decide) (by decide) (by decide)
  have ex20 : x2 20 = x 20 := hx 20 (by decide) (by decide) (by decide)
  have es0 : y2 0 = y 0 := hs 0 (by decide) (by decide)
  have es1 : y2 1 = y 1 := hs 1 (by decide) (by decide)
  have es4 : y2 4 = y 4 := hs 4 (by decide) (by decide)
  have es6 : y2 6 = y 6 := hs 6 (by decide) (by decide)
  have es7 : y2 7 = y 7 := hs 7 (by decide) (by decide)
  have es9 : y2 9 = y 9 := hs 9 (by decide) (by decide)
  have es10 : y2 10 = y 10 := hs 10 (by decide) (by decide)
  have es11 : y2 11 = y 11 := hs 11 (by decide) (by decide)
  have es12 : y2 12 = y 12 := hs 12 (by decide) (by decide)
  have es13 : y2 13 = y 13 := hs 13 (by decide) (by decide)
  have es14 : y2 14 = y 14 := hs 14 (by decide) (by decide)
  have es15 : y2 15 = y 15 := hs 15 (by decide) (by decide)
  have es2 : y2 2 = y 2 := hs 2 (by decide) (by decide)
  have esS : ∀ i : Nat, i < 4 → y2 (2 + i) = y (2 + i) := fun i hi => hs (2 + i) (by omega) (by omega)
  have ek0 : ∀ k : Nat, k < 150 → y2 (16 + 8 * k + 0) = y (16 + 8 * k + 0) := fun k q => hk k 0 q (by decide) 
  have ek1 : ∀ k : Nat, k < 150 → y2 (16 + 8 * k + 1) = y (16 + 8 * k + 1) := fun k q => hk k 1 q (by decide) 
  have ek2 : ∀ k : Nat, k < 150 → y2 (16 + 8 * k + 2) = y (16 + 8 * k + 2) := fun k q => hk k 2 q (by decide) 
  have ek3 : ∀ k : Nat, k < 150 → y2 (16 + 8 * k + 3) = y (16 + 8 * k + 3) := fun k q => hk k 3 q (by decide) 
  have ek4 : ∀ k : Nat, k < 150 → y2 (16 + 8 * k + 4) = y (16 + 8 * k + 4) := fun k q => hk k 4 q (by decide) 
  have ek5 : ∀ k : Nat, k < 150 → y2 (16 + 8 * k + 5) = y (16 + 8 * k + 5) := fun k q => hk k 5 q (by decide) 
  have ek6 : ∀ k : Nat, k < 150 → y2 (16 + 8 * k + 6) = y (16 + 8 * k + 6) := fun k q => hk k 6 q (by decide) 
  have ek7 : ∀ k : Nat, k < 150 → y2 (16 + 8 * k + 7) = y (16 + 8 * k + 7) := fun k q => hk k 7 q (by decide) 
  have eg1 : ∀ j : Nat, j < 150 → y2 (1216 + 4 * j + 1) = y (1216 + 4 * j + 1) := fun j q => hg j 1 q (by decide) (by decide)
  have eg2 : ∀ j : Nat, j < 150 → y2 (1216 + 4 * j + 2) = y (1216 + 4 * j + 2) := fun j q => hg j 2 q (by decide) (by decide)
  have eg3 : ∀ j : Nat, j < 150 → y2 (1216 + 4 * j + 3) = y (1216 + 4 * j + 3) := fun j q => hg j 3 q (by decide) (by decide)
  have hn0 : n ≤ 150 := qzR_nn h
  have hp0 : p ≤ 150 := (qzR_pn h).1
  have em : ∀ g : Int32, qz_mem y2 n g = qz_mem y n g := fun g => qz_sum_c n (fun k hk => by simp only [qz_mb, ek6 k (by omega), ek7 k (by omega)])
  have er : ∀ g : Int32, qz_rec y2 n g = qz_rec y n g := fun g => qz_sum_c n (fun k hk => by simp only [qz_mb, ek1 k (by omega), ek6 k (by omega), ek7 k (by omega)])
  exact qz_R_mk
    (by first | exact qzR_tx h | (simp only [ex0_6, ex0_7, ex0_9, ex0_10, ex0_11, ex1, ex2, ex3, ex4, ex5, ex6, ex7, ex8, ex9, ex10, ex12, ex13, ex14, ex15, ex16, ex18, ex19, ex20, es0, es1, es4, es6, es7, es9, es10, es11, es12, es13, es14, es15, es2, em, er]; exact qzR_tx h))
    (by first | exact qzR_ty h | (simp only [ex0_6, ex0_7, ex0_9, ex0_10, ex0_11, ex1, ex2, ex3, ex4, ex5, ex6, ex7, ex8, ex9, ex10, ex12, ex13, ex14, ex15, ex16, ex18, ex19, ex20, es0, es1, es4, es6, es7, es9, es10, es11, es12, es13, es14, es15, es2, em, er]; exact qzR_ty h))
    (by first | exact qzR_wx h | (simp only [ex0_6, ex0_7, ex0_9, ex0_10, ex0_11, ex1, ex2, ex3, ex4, ex5, ex6, ex7, ex8, ex9, ex10, ex12, ex13, ex14, ex15, ex16, ex18, ex19, ex20, es0, es1, es4, es6, es7, es9, es10, es11, es12, es13, es14, es15, es2, em, er]; exact qzR_wx h))
    (by first | exact qzR_wr h | (simp only [ex0_6, ex0_7, ex0_9, ex0_10, ex0_11, ex1, ex2, ex3, ex4, ex5, ex6, ex7, ex8, ex9, ex10, ex12, ex13, ex14, ex15, ex16, ex18, ex19, ex20, es0, es1, es4, es6, es7, es9, es10, es11, es12, es13, es14, es15, es2, em, er]; exact qzR_wr h))
    (fun i hi => by rw [ex18, esS i hi]; exact qzR_sx h i hi)
    (by first | exact qzR_s0 h | (simp only [ex0_6, ex0_7, ex0_9, ex0_10, ex0_11, ex1, ex2, ex3, ex4, ex5, ex6, ex7, ex8, ex9, ex10, ex12, ex13, ex14, ex15, ex16, ex18, ex19, ex20, es0, es1, es4, es6, es7, es9, es10, es11, es12, es13, es14, es15, es2, em, er]; exact qzR_s0 h))
    (by first | exact qzR_s2 h | (simp only [ex0_6, ex0_7, ex0_9, ex0_10, ex0_11, ex1, ex2, ex3, ex4, ex5, ex6, ex7, ex8, ex9, ex10, ex12, ex13, ex14, ex15, ex16, ex18, ex19, ex20, es0, es1, es4, es6, es7, es9, es10, es11, es12, es13, es14, es15, es2, em, er]; exact qzR_s2 h))
    (by first | exact qzR_nx h | (simp only [ex0_6, ex0_7, ex0_9, ex0_10, ex0_11, ex1, ex2, ex3, ex4, ex5, ex6, ex7, ex8, ex9, ex10, ex12, ex13, ex14, ex15, ex16, ex18, ex19, ex20, es0, es1, es4, es6, es7, es9, es10, es11, es12, es13, es14, es15, es2, em, er]; exact qzR_nx h))
    (by first | exact qzR_ny h | (simp only [ex0_6, ex0_7, ex0_9, ex0_10, ex0_11, ex1, ex2, ex3, ex4, ex5, ex6, ex7, ex8, ex9, ex10, ex12, ex13, ex14, ex15, ex16, ex18, ex19, ex20, es0, es1, es4, es6, es7, es9, es10, es11, es12, es13, es14, es15, es2, em, er]; exact qzR_ny h))
    (by first | exact qzR_nn h | (simp only [ex0_6, ex0_7, ex0_9, ex0_10, ex0_11, ex1, ex2, ex3, ex4, ex5, ex6, ex7, ex8, ex9, ex10, ex12, ex13, ex14, ex15, ex16, ex18, ex19, ex20, es0, es1, es4, es6, es7, es9, es10, es11, es12, es13, es14, es15, es2, em, er]; exact qzR_nn h))
    (by first | exact qzR_px h | (simp only [ex0_6, ex0_7, ex0_9, ex0_10, ex0_11, ex1, ex2, ex3, ex4, ex5, ex6, ex7, ex8, ex9, ex10, ex12, ex13, ex14, ex15, ex16, ex18, ex19, ex20, es0, es1, es4, es6, es7, es9, es10, es11, es12, es13, es14, es15, es2, em, er]; exact qzR_px h))
    (by first | exact qzR_py h | (simp only [ex0_6, ex0_7, ex0_9, ex0_10, ex0_11, ex1, ex2, ex3, ex4, ex5, ex6, ex7, ex8, ex9, ex10, ex12, ex13, ex14, ex15, ex16, ex18, ex19, ex20, es0, es1, es4, es6, es7, es9, es10, es11, es12, es13, es14, es15, es2, em, er]; exact qzR_py h))
    ⟨hp0, (qzR_pn h).2.1, fun _ => hpn⟩
    (h08.trans h82.symm)
    (by first | exact qzR_vx h | (simp only [ex0_6, ex0_7, ex0_9, ex0_10, ex0_11, ex1, ex2, ex3, ex4, ex5, ex6, ex7, ex8, ex9, ex10, ex12, ex13, ex14, ex15, ex16, ex18, ex19, ex20, es0, es1, es4, es6, es7, es9, es10, es11, es12, es13, es14, es15, es2, em, er]; exact qzR_vx h))
    (by first | exact qzR_t0 h | (simp only [ex0_6, ex0_7, ex0_9, ex0_10, ex0_11, ex1, ex2, ex3, ex4, ex5, ex6, ex7, ex8, ex9, ex10, ex12, ex13, ex14, ex15, ex16, ex18, ex19, ex20, es0, es1, es4, es6, es7, es9, es10, es11, es12, es13, es14, es15, es2, em, er]; exact qzR_t0 h))
    (by first | exact qzR_t1 h | (simp only [ex0_6, ex0_7, ex0_9, ex0_10, ex0_11, ex1, ex2, ex3, ex4, ex5, ex6, ex7, ex8, ex9, ex10, ex12, ex13, ex14, ex15, ex16, ex18, ex19, ex20, es0, es1, es4, es6, es7, es9, es10, es11, es12, es13, es14, es15, es2, em, er]; exact qzR_t1 h))
    (by first | exact qzR_t2 h | (simp only [ex0_6, ex0_7, ex0_9, ex0_10, ex0_11, ex1, ex2, ex3, ex4, ex5, ex6, ex7, ex8, ex9, ex10, ex12, ex13, ex14, ex15, ex16, ex18, ex19, ex20, es0, es1, es4, es6, es7, es9, es10, es11, es12, es13, es14, es15, es2, em, er]; exact qzR_t2 h))
    (by first | exact qzR_t3 h | (simp only [ex0_6, ex0_7, ex0_9, ex0_10, ex0_11, ex1, ex2, ex3, ex4, ex5, ex6, ex7, ex8, ex9, ex10, ex12, ex13, ex14, ex15, ex16, ex18, ex19, ex20, es0, es1, es4, es6, es7, es9, es10, es11, es12, es13, es14, es15, es2, em, er]; exact qzR_t3 h))
    (by first | exact qzR_t4 h | (simp only [ex0_6, ex0_7, ex0_9, ex0_10, ex0_11, ex1, ex2, ex3, ex4, ex5, ex6, ex7, ex8, ex9, ex10, ex12, ex13, ex14, ex15, ex16, ex18, ex19, ex20, es0, es1, es4, es6, es7, es9, es10, es11, es12, es13, es14, es15, es2, em, er]; exact qzR_t4 h))
    (by first | exact qzR_t5 h | (simp only [ex0_6, ex0_7, ex0_9, ex0_10, ex0_11, ex1, ex2, ex3, ex4, ex5, ex6, ex7, ex8, ex9, ex10, ex12, ex13, ex14, ex15, ex16, ex18, ex19, ex20, es0, es1, es4, es6, es7, es9, es10, es11, es12, es13, es14, es15, es2, em, er]; exact qzR_t5 h))
    (by first | exact qzR_t6 h | (simp only [ex0_6, ex0_7, ex0_9, ex0_10, ex0_11, ex1, ex2, ex3, ex4, ex5, ex6, ex7, ex8, ex9, ex10, ex12, ex13, ex14, ex15, ex16, ex18, ex19, ex20, es0, es1, es4, es6, es7, es9, es10, es11, es12, es13, es14, es15, es2, em, er]; exact qzR_t6 h))
    (by first | exact qzR_t7 h | (simp only [ex0_6, ex0_7, ex0_9, ex0_10, ex0_11, ex1, ex2, ex3, ex4, ex5, ex6, ex7, ex8, ex9, ex10, ex12, ex13, ex14, ex15, ex16, ex18, ex19, ex20, es0, es1, es4, es6, es7, es9, es10, es11, es12, es13, es14, es15, es2, em, er]; exact qzR_t7 h))
    (fun k hk => by simp only [ex0_6, ex0_7, ex0_9, ex0_10, ex0_11, ex1, ex2, ex3, ex4, ex5, ex6, ex7, ex8, ex9, ex10, ex12, ex13, ex14, ex15, ex16, ex18, ex19, ex20, es0, es1, es4, es6, es7, es9, es10, es11, es12, es13, es14, es15, es2, em, er, ek0 k (show k < 150 by omega), ek1 k (show k < 150 by omega), ek2 k (show k < 150 by omega), ek3 k (show k < 150 by omega), ek4 k (show k < 150 by omega), ek5 k (show k < 150 by omega), ek6 k (show k < 150 by omega), ek7 k (show k < 150 by omega)]; exact qzR_c2 h k hk)
    (fun k hk => by simp only [ex0_6, ex0_7, ex0_9, ex0_10, ex0_11, ex1, ex2, ex3, ex4, ex5, ex6, ex7, ex8, ex9, ex10, ex12, ex13, ex14, ex15, ex16, ex18, ex19, ex20, es0, es1, es4, es6, es7, es9, es10, es11, es12, es13, es14, es15, es2, em, er, ek0 k (show k < 150 by omega), ek1 k (show k < 150 by omega), ek2 k (show k < 150 by omega), ek3 k (show k < 150 by omega), ek4 k (show k < 150 by omega), ek5 k (show k < 150 by omega), ek6 k (show k < 150 by omega), ek7 k (show k < 150 by omega)]; exact qzR_c3 h k hk)
    (fun k hk => by simp only [ex0_6, ex0_7, ex0_9, ex0_10, ex0_11, ex1, ex2, ex3, ex4, ex5, ex6, ex7, ex8, ex9, ex10, ex12, ex13, ex14, ex15, ex16, ex18, ex19, ex20, es0, es1, es4, es6, es7, es9, es10, es11, es12, es13, es14, es15, es2, em, er, ek0 k (show k < 150 by omega), ek1 k (show k < 150 by omega), ek2 k (show k < 150 by omega), ek3 k (show k < 150 by omega), ek4 k (show k < 150 by omega), ek5 k (show k < 150 by omega), ek6 k (show k < 150 by omega), ek7 k (show k < 150 by omega)]; exact qzR_c4 h k hk)
    (fun k hk => by simp only [ex0_6, ex0_7, ex0_9, ex0_10, ex0_11, ex1, ex2, ex3, ex4, ex5, ex6, ex7, ex8, ex9, ex10, ex12, ex13, ex14, ex15, ex16, ex18, ex19, ex20, es0, es1, es4, es6, es7, es9, es10, es11, es12, es13, es14, es15, es2, em, er, ek0 k (show k < 150 by omega), ek1 k (show k < 150 by omega), ek2 k (show k < 150 by omega), ek3 k (show k < 150 by omega), ek4 k (show k < 150 by omega), ek5 k (show k < 150 by omega), ek6 k (show k < 150 by omega), ek7 k (show k < 150 by omega)]; exact qzR_c5 h k hk)
    (fun k hk => by simp only [ex0_6, ex0_7, ex0_9, ex0_10, ex0_11, ex1, ex2, ex3, ex4, ex5, ex6, ex7, ex8, ex9, ex10, ex12, ex13, ex14, ex15, ex16, ex18, ex19, ex20, es0, es1, es4, es6, es7, es9, es10, es11, es12, es13, es14, es15, es2, em, er, ek0 k (show k < 150 by omega), ek1 k (show k < 150 by omega), ek2 k (show k < 150 by omega), ek3 k (show k < 150 by omega), ek4 k (show k < 150 by omega), ek5 k (show k < 150 by omega), ek6 k (show k < 150 by omega), ek7 k (show k < 150 by omega)]; exact qzR_c6 h k hk)
    (fun k hk => by simp only [ex0_6, ex0_7, ex0_9, ex0_10, ex0_11, ex1, ex2, ex3, ex4, ex5, ex6, ex7, ex8, ex9, ex10, ex12, ex13, ex14, ex15, ex16, ex18, ex19, ex20, es0, es1, es4, es6, es7, es9, es10, es11, es12, es13, es14, es15, es2, em, er, ek0 k (show k < 150 by omega), ek1 k (show k < 150 by omega), ek2 k (show k < 150 by omega), ek3 k (show k < 150 by omega), ek4 k (show k < 150 by omega), ek5 k (show k < 150 by omega), ek6 k (show k < 150 by omega), ek7 k (show k < 150 by omega)]; exact qzR_c7 h k hk)
    (fun k hk => by simp only [ex0_6, ex0_7, ex0_9, ex0_10, ex0_11, ex1, ex2, ex3, ex4, ex5, ex6, ex7, ex8, ex9, ex10, ex12, ex13, ex14, ex15, ex16, ex18, ex19, ex20, es0, es1, es4, es6, es7, es9, es10, es11, es12, es13, es14, es15, es2, em, er, ek0 k (show k < 150 by omega), ek1 k (show k < 150 by omega), ek2 k (show k < 150 by omega), ek3 k (show k < 150 by omega), ek4 k (show k < 150 by omega), ek5 k (show k < 150 by omega), ek6 k (show k < 150 by omega), ek7 k (show k < 150 by omega)]; exact qzR_c8 h k hk)
    (fun k hk => by simp only [ex0_6, ex0_7, ex0_9, ex0_10, ex0_11, ex1, ex2, ex3, ex4, ex5, ex6, ex7, ex8, ex9, ex10, ex12, ex13, ex14, ex15, ex16, ex18, ex19, ex20, es0, es1, es4, es6, es7, es9, es10, es11, es12, es13, es14, es15, es2, em, er, ek0 k (show k < 150 by omega), ek1 k (show k < 150 by omega), ek2 k (show k < 150 by omega), ek3 k (show k < 150 by omega), ek4 k (show k < 150 by omega), ek5 k (show k < 150 by omega), ek6 k (show k < 150 by omega), ek7 k (show k < 150 by omega)]; exact qzR_c9 h k hk)
    (fun j hj => by rw [h11, hg0 j (by omega)]; split; rfl; exact qzR_g11 h j hj)
    (fun j hj => by simp only [ex0_6, ex0_7, ex0_9, ex0_10, ex0_11, ex1, ex2, ex3, ex4, ex5, ex6, ex7, ex8, ex9, ex10, ex12, ex13, ex14, ex15, ex16, ex18, ex19, ex20, es0, es1, es4, es6, es7, es9, es10, es11, es12, es13, es14, es15, es2, em, er, eg1 j (show j < 150 by omega), eg2 j (show j < 150 by omega), eg3 j (show j < 150 by omega)]; exact qzR_g14 h j hj)
    (fun j hj => by simp only [ex0_6, ex0_7, ex0_9, ex0_10, ex0_11, ex1, ex2, ex3, ex4, ex5, ex6, ex7, ex8, ex9, ex10, ex12, ex13, ex14, ex15, ex16, ex18, ex19, ex20, es0, es1, es4, es6, es7, es9, es10, es11, es12, es13, es14, es15, es2, em, er, eg1 j (show j < 150 by omega), eg2 j (show j < 150 by omega), eg3 j (show j < 150 by omega)]; exact qzR_g12 h j hj)
    (fun j hj => by simp only [ex0_6, ex0_7, ex0_9, ex0_10, ex0_11, ex1, ex2, ex3, ex4, ex5, ex6, ex7, ex8, ex9, ex10, ex12, ex13, ex14, ex15, ex16, ex18, ex19, ex20, es0, es1, es4, es6, es7, es9, es10, es11, es12, es13, es14, es15, es2, em, er, eg1 j (show j < 150 by omega), eg2 j (show j < 150 by omega), eg3 j (show j < 150 by omega)]; exact qzR_g13 h j hj)
    (fun j h1 h2 => by rw [eg2 j h2]; exact qzR_g0 h j h1 h2)
    (by first | exact qzR_b4 h | (simp only [ex0_6, ex0_7, ex0_9, ex0_10, ex0_11, ex1, ex2, ex3, ex4, ex5, ex6, ex7, ex8, ex9, ex10, ex12, ex13, ex14, ex15, ex16, ex18, ex19, ex20, es0, es1, es4, es6, es7, es9, es10, es11, es12, es13, es14, es15, es2, em, er]; exact qzR_b4 h))
    (by first | exact qzR_b9 h | (simp only [ex0_6, ex0_7, ex0_9, ex0_10, ex0_11, ex1, ex2, ex3, ex4, ex5, ex6, ex7, ex8, ex9, ex10, ex12, ex13, ex14, ex15, ex16, ex18, ex19, ex20, es0, es1, es4, es6, es7, es9, es10, es11, es12, es13, es14, es15, es2, em, er]; exact qzR_b9 h))
    (fun k hk => by simp only [ex0_6, ex0_7, ex0_9, ex0_10, ex0_11, ex1, ex2, ex3, ex4, ex5, ex6, ex7, ex8, ex9, ex10, ex12, ex13, ex14, ex15, ex16, ex18, ex19, ex20, es0, es1, es4, es6, es7, es9, es10, es11, es12, es13, es14, es15, es2, em, er, ek0 k (show k < 150 by omega), ek1 k (show k < 150 by omega), ek2 k (show k < 150 by omega), ek3 k (show k < 150 by omega), ek4 k (show k < 150 by omega), ek5 k (show k < 150 by omega), ek6 k (show k < 150 by omega), ek7 k (show k < 150 by omega)]; exact qzR_kc h k hk)
    (fun k hk => by simp only [ex0_6, ex0_7, ex0_9, ex0_10, ex0_11, ex1, ex2, ex3, ex4, ex5, ex6, ex7, ex8, ex9, ex10, ex12, ex13, ex14, ex15, ex16, ex18, ex19, ex20, es0, es1, es4, es6, es7, es9, es10, es11, es12, es13, es14, es15, es2, em, er, ek0 k (show k < 150 by omega), ek1 k (show k < 150 by omega), ek2 k (show k < 150 by omega), ek3 k (show k < 150 by omega), ek4 k (show k < 150 by omega), ek5 k (show k < 150 by omega), ek6 k (show k < 150 by omega), ek7 k (show k < 150 by omega)]; exact qzR_kr h k hk)
    (fun k hk => by simp only [ex0_6, ex0_7, ex0_9, ex0_10, ex0_11, ex1, ex2, ex3, ex4, ex5, ex6, ex7, ex8, ex9, ex10, ex12, ex13, ex14, ex15, ex16, ex18, ex19, ex20, es0, es1, es4, es6, es7, es9, es10, es11, es12, es13, es14, es15, es2, em, er, ek0 k (show k < 150 by omega), ek1 k (show k < 150 by omega), ek2 k (show k < 150 by omega), ek3 k (show k < 150 by omega), ek4 k (show k < 150 by omega), ek5 k (show k < 150 by omega), ek6 k (show k < 150 by omega), ek7 k (show k < 150 by omega)]; exact qzR_kw h k hk)
    (fun k hk => by simp only [ex0_6, ex0_7, ex0_9, ex0_10, ex0_11, ex1, ex2, ex3, ex4, ex5, ex6, ex7, ex8, ex9, ex10, ex12, ex13, ex14, ex15, ex16, ex18, ex19, ex20, es0, es1, es4, es6, es7, es9, es10, es11, es12, es13, es14, es15, es2, em, er, ek0 k (show k < 150 by omega), ek1 k (show k < 150 by omega), ek2 k (show k < 150 by omega), ek3 k (show k < 150 by omega), ek4 k (show k < 150 by omega), ek5 k (show k < 150 by omega), ek6 k (show k < 150 by omega), ek7 k (show k < 150 by omega)]; exact qzR_kg h k hk)
    (fun k hk q => by
      rw [ek3 k (by omega)] at q ⊢
      rw [ek7 k (by omega), ek6 k (by omega)]
      obtain ⟨u, v⟩ := qzR_ko h k hk q
      refine ⟨u, fun j hj hgj => ?_⟩
      have hjp : j ≠ j0 := fun e1 => hno k hk ⟨e1 ▸ hgj, u⟩
      rw [hg0 j (by omega), if_neg hjp]
      exact v j hj hgj)
    (fun j hj => by rw [hg0 j (by omega)]; split; exact ⟨5, by omega, by omega, rfl⟩; exact qzR_gs h j hj)
    (Or.inl h82)
    (fun j hj q => by rw [hg0 j (by omega)] at q; by_cases e1 : j = j0; (rw [if_pos e1] at q; exact absurd q (by decide)); (rw [if_neg e1] at q; have q2 := qzR_gu h j hj q; rw [h8, nI_eq (by omega) (by omega)] at q2; exact absurd q2.symm e1))
    (fun k hk q1 _ => by rw [ek6 k (by omega), h82] at q1; obtain ⟨j, hj, e1⟩ := qzR_kg h k hk; rw [e1] at q1; exact absurd q1 (qz_n5 (by omega)))
    (fun _ q => absurd h82 q)
    (by
      rcases qzR_wa h with q | ⟨j, h1, h2, h3, h4, L, h5, h6, h7⟩
      · exact Or.inl (es9.trans q)
      · have hne : j ≠ j0 := fun e1 => by rw [e1, hst] at h3; exact absurd h3 (by decide)
        exact Or.inr ⟨j, by omega, es9.trans h2, by rw [hg0 j (by omega), if_neg hne]; exact h3, ex0_11.trans (h4.trans (eg3 j (by omega)).symm), L, fun _ => h5 hb, h6, (eg3 j (by omega)).trans h7⟩)
    (fun j hj q => by rw [hg0 j (by omega)] at q; by_cases e1 : j = j0; (rw [if_pos e1] at q; exact absurd q (by decide)); (rw [if_neg e1] at q; rw [es9]; exact qzR_wu h j hj q))
    (by first | exact qzR_qf h | (simp only [ex0_6, ex0_7, ex0_9, ex0_10, ex0_11, ex1, ex2, ex3, ex4, ex5, ex6, ex7, ex8, ex9, ex10, ex12, ex13, ex14, ex15, ex16, ex18, ex19, ex20, es0, es1, es4, es6, es7, es9, es10, es11, es12, es13, es14, es15, es2, em, er]; exact qzR_qf h))
    (by first | exact qzR_qe h | (simp only [ex0_6, ex0_7, ex0_9, ex0_10, ex0_11, ex1, ex2, ex3, ex4, ex5, ex6, ex7, ex8, ex9, ex10, ex12, ex13, ex14, ex15, ex16, ex18, ex19, ex20, es0, es1, es4, es6, es7, es9, es10, es11, es12, es13, es14, es15, es2, em, er]; exact qzR_qe h))
    (by have q := qzR_qb h; exact ⟨q.1, q.2.1, fun q2 => absurd h82 q2⟩)
    (fun i h1 h2 => by rw [ex16]; obtain ⟨j, q1, q2, q3⟩ := qzR_qs h i h1 h2; exact ⟨j, q1, q2, by rw [hg0 j (by omega), if_neg (fun e1 => by rw [e1, hst] at q3; exact absurd q3 (by decide))]; exact q3⟩)
    (by first | exact qzR_qi h | (simp only [ex0_6, ex0_7, ex0_9, ex0_10, ex0_11, ex1, ex2, ex3, ex4, ex5, ex6, ex7, ex8, ex9, ex10, ex12, ex13, ex14, ex15, ex16, ex18, ex19, ex20, es0, es1, es4, es6, es7, es9, es10, es11, es12, es13, es14, es15, es2, em, er]; exact qzR_qi h))
    (fun j hj q => by rw [hg0 j (by omega)] at q; by_cases e1 : j = j0; (rw [if_pos e1] at q; exact absurd q (by decide)); (rw [if_neg e1] at q; rw [ex16]; exact qzR_qc h j hj q))
    (fun c hc => by rw [ex20]; rcases qzR_oc h c hc with ⟨q1, q2⟩ | ⟨k, q1, q2, q3, q4⟩; (exact Or.inl ⟨q1, fun k hk => by rw [ek3 k (by omega), ek0 k (by omega)]; exact q2 k hk⟩); (exact Or.inr ⟨k, q1, q2, (ek0 k (by omega)).trans q3, by rw [ek3 k (by omega)]; exact q4⟩))
    (fun k k2 h1 h2 => by rw [ek0 k (by omega), ek0 k2 (by omega), ek3 k (by omega), ek3 k2 (by omega)]; exact qzR_ou h k k2 h1 h2)
set_option maxHeartbeats 4000000 in
theorem qzo_end (h : qz_R x y n p f e t b) (hx : ∀ i : Nat, i < 21 → i ≠ 0 → x2 i = x i) (hx0 : ∀ s : Nat, s ≠ 9 → x2 0 s = x 0 s) (hs : ∀ a : Nat, a < 16 → y2 a = y a) (hk : ∀ k w : Nat, k < 150 → w < 8 → y2 (16 + 8 * k + w) = y (16 + 8 * k + w)) (hg : ∀ j w : Nat, j < 150 → w < 4 → w ≠ 1 → y2 (1216 + 4 * j + w) = y (1216 + 4 * j + w)) {j0 : Nat} {v : Int32} (hj0 : j0 + 1 = p) (h8 : y 8 = nI j0) (hst : y (1216 + 4 * j0 + 0) = 1) (h09 : x2 0 9 = v) (hg1 : y2 (1216 + 4 * j0 + 1) = v) (hE : ∃ E : Nat, E ≤ t + 20 ∧ v = nI E) : qz_R x2 y2 n p f e t b := by
  have ex0_6 : x2 0 6 = x 0 6 := hx0 6 (by decide)
  have ex0_7 : x2 0 7 = x 0 7 := hx0 7 (by decide)
  have ex0_8 : x2 0 8 = x 0 8 := hx0 8 (by decide)
  have ex0_10 : x2 0 10 = x 0 10 := hx0 10 (by decide)
  have ex0_11 : x2 0 11 = x 0 11 := hx0 11 (by decide)
  have ex1 : x2 1 = x 1 := hx 1 (by decide) (by decide)
  have ex2 : x2 2 = x 2 := hx 2 (by decide) (by decide)
  have ex3 : x2 3 = x 3 := hx 3 (by decide) (by decide)
  have ex4 : x2 4 = x 4 := hx 4 (by decide) (by decide)
  have ex5 : x2 5 = x 5 := hx 5 (by decide) (by decide)
  have ex6 : x2 6 = x 6 := hx 6 (by decide) (by decide)
  have ex7 : x2 7 = x 7 := hx 7 (by decide) (by decide)
  have ex8 : x2 8 = x 8 := hx 8 (by decide) (by decide)
  have ex9 : x2 9 = x 9 := hx 9 (by decide) (by decide)
  have ex10 : x2 10 = x 10 := hx 10 (by decide) (by decide)
  have ex11 : x2 11 = x 11 := hx 11 (by decide) (by decide)
  have ex12 : x2 12 = x 12 := hx 12 (by decide) (by decide)
  have ex13 : x2 13 = x 13 := hx 13 (by decide) (by decide)
  have ex14 : x2 14 = x 14 := hx 14 (by decide) (by decide)
  have ex15 : x2 15 = x 15 := hx 15 (by decide) (by decide)
  have ex16 : x2 16 = x 16 := hx 16 (by decide) (by decide)
  have ex18 : x2 18 = x 18 := hx 18 (by decide) (by decide)
  have ex19 : x2 19 = x 19 := hx 19 (by decide) (by decide)
  have ex20 : x2 20 = x 20 := hx 20 (by decide) (by decide)
  have es0 : y2 0 = y 0 := hs 0 (by decide) 
  have es1 : y2 1 = y 1 := hs 1 (by decide) 
  have es4 : y2 4 = y 4 := hs 4 (by decide) 
  have es6 : y2 6 = y 6 := hs 6 (by decide) 
  have es7 : y2 7 = y 7 := hs 7 (by decide) 
  have es8 : y2 8 = y 8 := hs 8 (by decide) 
  have es9 : y2 9 = y 9 := hs 9 (by decide) 
  have es10 : y2 10 = y 10 := hs 10 (by decide) 
  have es11 : y2 11 = y 11 := hs 11 (by decide) 
  have es12 : y2 12 = y 12 := hs 12 (by decide) 
  have es13 : y2 13 = y 13 := hs 13 (by decide) 
  have es14 : y2 14 = y 14 := hs 14 (by decide) 
  have es15 : y2 15 = y 15 := hs 15 (by decide) 
  have es2 : y2 2 = y 2 := hs 2 (by decide) 
  have esS : ∀ i : Nat, i < 4 → y2 (2 + i) = y (2 + i) := fun i hi => hs (2 + i) (by omega) 
  have ek0 : ∀ k : Nat, k < 150 → y2 (16 + 8 * k + 0) = y (16 + 8 * k + 0) := fun k q => hk k 0 q (by decide) 
  have ek1 : ∀ k : Nat, k < 150 → y2 (16 + 8 * k + 1) = y (16 + 8 * k + 1) := fun k q => hk k 1 q (by decide) 
  have ek2 : ∀ k : Nat, k < 150 → y2 (16 + 8 * k + 2) = y (16 + 8 * k + 2) := fun k q => hk k 2 q (by decide) 
  have ek3 : ∀ k : Nat, k < 150 → y2 (16 + 8 * k + 3) = y (16 + 8 * k + 3) := fun k q => hk k 3 q (by decide) 
  have ek4 : ∀ k : Nat, k < 150 → y2 (16 + 8 * k + 4) = y (16 + 8 * k + 4) := fun k q => hk k 4 q (by decide) 
  have ek5 : ∀ k : Nat, k < 150 → y2 (16 + 8 * k + 5) = y (16 + 8 * k + 5) := fun k q => hk k 5 q (by decide) 
  have ek6 : ∀ k : Nat, k < 150 → y2 (16 + 8 * k + 6) = y (16 + 8 * k + 6) := fun k q => hk k 6 q (by decide) 
  have ek7 : ∀ k : Nat, k < 150 → y2 (16 + 8 * k + 7) = y (16 + 8 * k + 7) := fun k q => hk k 7 q (by decide) 
  have eg0 : ∀ j : Nat, j < 150 → y2 (1216 + 4 * j + 0) = y (1216 + 4 * j + 0) := fun j q => hg j 0 q (by decide) (by decide)
  have eg2 : ∀ j : Nat, j < 150 → y2 (1216 + 4 * j + 2) = y (1216 + 4 * j + 2) := fun j q => hg j 2 q (by decide) (by decide)
  have eg3 : ∀ j : Nat, j < 150 → y2 (1216 + 4 * j + 3) = y (1216 + 4 * j + 3) := fun j q => hg j 3 q (by decide) (by decide)
  have hn0 : n ≤ 150 := qzR_nn h
  have hp0 : p ≤ 150 := (qzR_pn h).1
  have em : ∀ g : Int32, qz_mem y2 n g = qz_mem y n g := fun g => qz_sum_c n (fun k hk => by simp only [qz_mb, ek6 k (by omega), ek7 k (by omega)])
  have er : ∀ g : Int32, qz_rec y2 n g = qz_rec y n g := fun g => qz_sum_c n (fun k hk => by simp only [qz_mb, ek1 k (by omega), ek6 k (by omega), ek7 k (by omega)])
  exact qz_R_mk
    (by first | exact qzR_tx h | (simp only [ex0_6, ex0_7, ex0_8, ex0_10, ex0_11, ex1, ex2, ex3, ex4, ex5, ex6, ex7, ex8, ex9, ex10, ex11, ex12, ex13, ex14, ex15, ex16, ex18, ex19, ex20, es0, es1, es4, es6, es7, es8, es9, es10, es11, es12, es13, es14, es15, es2, em, er]; exact qzR_tx h))
    (by first | exact qzR_ty h | (simp only [ex0_6, ex0_7, ex0_8, ex0_10, ex0_11, ex1, ex2, ex3, ex4, ex5, ex6, ex7, ex8, ex9, ex10, ex11, ex12, ex13, ex14, ex15, ex16, ex18, ex19, ex20, es0, es1, es4, es6, es7, es8, es9, es10, es11, es12, es13, es14, es15, es2, em, er]; exact qzR_ty h))
    (by first | exact qzR_wx h | (simp only [ex0_6, ex0_7, ex0_8, ex0_10, ex0_11, ex1, ex2, ex3, ex4, ex5, ex6, ex7, ex8, ex9, ex10, ex11, ex12, ex13, ex14, ex15, ex16, ex18, ex19, ex20, es0, es1, es4, es6, es7, es8, es9, es10, es11, es12, es13, es14, es15, es2, em, er]; exact qzR_wx h))
    (by first | exact qzR_wr h | (simp only [ex0_6, ex0_7, ex0_8, ex0_10, ex0_11, ex1, ex2, ex3, ex4, ex5, ex6, ex7, ex8, ex9, ex10, ex11, ex12, ex13, ex14, ex15, ex16, ex18, ex19, ex20, es0, es1, es4, es6, es7, es8, es9, es10, es11, es12, es13, es14, es15, es2, em, er]; exact qzR_wr h))
    (fun i hi => by rw [ex18, esS i hi]; exact qzR_sx h i hi)
    (by first | exact qzR_s0 h | (simp only [ex0_6, ex0_7, ex0_8, ex0_10, ex0_11, ex1, ex2, ex3, ex4, ex5, ex6, ex7, ex8, ex9, ex10, ex11, ex12, ex13, ex14, ex15, ex16, ex18, ex19, ex20, es0, es1, es4, es6, es7, es8, es9, es10, es11, es12, es13, es14, es15, es2, em, er]; exact qzR_s0 h))
    (by first | exact qzR_s2 h | (simp only [ex0_6, ex0_7, ex0_8, ex0_10, ex0_11, ex1, ex2, ex3, ex4, ex5, ex6, ex7, ex8, ex9, ex10, ex11, ex12, ex13, ex14, ex15, ex16, ex18, ex19, ex20, es0, es1, es4, es6, es7, es8, es9, es10, es11, es12, es13, es14, es15, es2, em, er]; exact qzR_s2 h))
    (by first | exact qzR_nx h | (simp only [ex0_6, ex0_7, ex0_8, ex0_10, ex0_11, ex1, ex2, ex3, ex4, ex5, ex6, ex7, ex8, ex9, ex10, ex11, ex12, ex13, ex14, ex15, ex16, ex18, ex19, ex20, es0, es1, es4, es6, es7, es8, es9, es10, es11, es12, es13, es14, es15, es2, em, er]; exact qzR_nx h))
    (by first | exact qzR_ny h | (simp only [ex0_6, ex0_7, ex0_8, ex0_10, ex0_11, ex1, ex2, ex3, ex4, ex5, ex6, ex7, ex8, ex9, ex10, ex11, ex12, ex13, ex14, ex15, ex16, ex18, ex19, ex20, es0, es1, es4, es6, es7, es8, es9, es10, es11, es12, es13, es14, es15, es2, em, er]; exact qzR_ny h))
    (by first | exact qzR_nn h | (simp only [ex0_6, ex0_7, ex0_8, ex0_10, ex0_11, ex1, ex2, ex3, ex4, ex5, ex6, ex7, ex8, ex9, ex10, ex11, ex12, ex13, ex14, ex15, ex16, ex18, ex19, ex20, es0, es1, es4, es6, es7, es8, es9, es10, es11, es12, es13, es14, es15, es2, em, er]; exact qzR_nn h))
    (by first | exact qzR_px h | (simp only [ex0_6, ex0_7, ex0_8, ex0_10, ex0_11, ex1, ex2, ex3, ex4, ex5, ex6, ex7, ex8, ex9, ex10, ex11, ex12, ex13, ex14, ex15, ex16, ex18, ex19, ex20, es0, es1, es4, es6, es7, es8, es9, es10, es11, es12, es13, es14, es15, es2, em, er]; exact qzR_px h))
    (by first | exact qzR_py h | (simp only [ex0_6, ex0_7, ex0_8, ex0_10, ex0_11, ex1, ex2, ex3, ex4, ex5, ex6, ex7, ex8, ex9, ex10, ex11, ex12, ex13, ex14, ex15, ex16, ex18, ex19, ex20, es0, es1, es4, es6, es7, es8, es9, es10, es11, es12, es13, es14, es15, es2, em, er]; exact qzR_py h))
    (by first | exact qzR_pn h | (simp only [ex0_6, ex0_7, ex0_8, ex0_10, ex0_11, ex1, ex2, ex3, ex4, ex5, ex6, ex7, ex8, ex9, ex10, ex11, ex12, ex13, ex14, ex15, ex16, ex18, ex19, ex20, es0, es1, es4, es6, es7, es8, es9, es10, es11, es12, es13, es14, es15, es2, em, er]; exact qzR_pn h))
    (by first | exact qzR_gx h | (simp only [ex0_6, ex0_7, ex0_8, ex0_10, ex0_11, ex1, ex2, ex3, ex4, ex5, ex6, ex7, ex8, ex9, ex10, ex11, ex12, ex13, ex14, ex15, ex16, ex18, ex19, ex20, es0, es1, es4, es6, es7, es8, es9, es10, es11, es12, es13, es14, es15, es2, em, er]; exact qzR_gx h))
    (by first | exact qzR_vx h | (simp only [ex0_6, ex0_7, ex0_8, ex0_10, ex0_11, ex1, ex2, ex3, ex4, ex5, ex6, ex7, ex8, ex9, ex10, ex11, ex12, ex13, ex14, ex15, ex16, ex18, ex19, ex20, es0, es1, es4, es6, es7, es8, es9, es10, es11, es12, es13, es14, es15, es2, em, er]; exact qzR_vx h))
    (by first | exact qzR_t0 h | (simp only [ex0_6, ex0_7, ex0_8, ex0_10, ex0_11, ex1, ex2, ex3, ex4, ex5, ex6, ex7, ex8, ex9, ex10, ex11, ex12, ex13, ex14, ex15, ex16, ex18, ex19, ex20, es0, es1, es4, es6, es7, es8, es9, es10, es11, es12, es13, es14, es15, es2, em, er]; exact qzR_t0 h))
    (by first | exact qzR_t1 h | (simp only [ex0_6, ex0_7, ex0_8, ex0_10, ex0_11, ex1, ex2, ex3, ex4, ex5, ex6, ex7, ex8, ex9, ex10, ex11, ex12, ex13, ex14, ex15, ex16, ex18, ex19, ex20, es0, es1, es4, es6, es7, es8, es9, es10, es11, es12, es13, es14, es15, es2, em, er]; exact qzR_t1 h))
    (by first | exact qzR_t2 h | (simp only [ex0_6, ex0_7, ex0_8, ex0_10, ex0_11, ex1, ex2, ex3, ex4, ex5, ex6, ex7, ex8, ex9, ex10, ex11, ex12, ex13, ex14, ex15, ex16, ex18, ex19, ex20, es0, es1, es4, es6, es7, es8, es9, es10, es11, es12, es13, es14, es15, es2, em, er]; exact qzR_t2 h))
    (by first | exact qzR_t3 h | (simp only [ex0_6, ex0_7, ex0_8, ex0_10, ex0_11, ex1, ex2, ex3, ex4, ex5, ex6, ex7, ex8, ex9, ex10, ex11, ex12, ex13, ex14, ex15, ex16, ex18, ex19, ex20, es0, es1, es4, es6, es7, es8, es9, es10, es11, es12, es13, es14, es15, es2, em, er]; exact qzR_t3 h))
    (by first | exact qzR_t4 h | (simp only [ex0_6, ex0_7, ex0_8, ex0_10, ex0_11, ex1, ex2, ex3, ex4, ex5, ex6, ex7, ex8, ex9, ex10, ex11, ex12, ex13, ex14, ex15, ex16, ex18, ex19, ex20, es0, es1, es4, es6, es7, es8, es9, es10, es11, es12, es13, es14, es15, es2, em, er]; exact qzR_t4 h))
    (by first | exact qzR_t5 h | (simp only [ex0_6, ex0_7, ex0_8, ex0_10, ex0_11, ex1, ex2, ex3, ex4, ex5, ex6, ex7, ex8, ex9, ex10, ex11, ex12, ex13, ex14, ex15, ex16, ex18, ex19, ex20, es0, es1, es4, es6, es7, es8, es9, es10, es11, es12, es13, es14, es15, es2, em, er]; exact qzR_t5 h))
    (by first | exact qzR_t6 h | (simp only [ex0_6, ex0_7, ex0_8, ex0_10, ex0_11, ex1, ex2, ex3, ex4, ex5, ex6, ex7, ex8, ex9, ex10, ex11, ex12, ex13, ex14, ex15, ex16, ex18, ex19, ex20, es0, es1, es4, es6, es7, es8, es9, es10, es11, es12, es13, es14, es15, es2, em, er]; exact qzR_t6 h))
    (by first | exact qzR_t7 h | (simp only [ex0_6, ex0_7, ex0_8, ex0_10, ex0_11, ex1, ex2, ex3, ex4, ex5, ex6, ex7, ex8, ex9, ex10, ex11, ex12, ex13, ex14, ex15, ex16, ex18, ex19, ex20, es0, es1, es4, es6, es7, es8, es9, es10, es11, es12, es13, es14, es15, es2, em, er]; exact qzR_t7 h))
    (fun k hk => by simp only [ex0_6, ex0_7, ex0_8, ex0_10, ex0_11, ex1, ex2, ex3, ex4, ex5, ex6, ex7, ex8, ex9, ex10, ex11, ex12, ex13, ex14, ex15, ex16, ex18, ex19, ex20, es0, es1, es4, es6, es7, es8, es9, es10, es11, es12, es13, es14, es15, es2, em, er, ek0 k (show k < 150 by omega), ek1 k (show k < 150 by omega), ek2 k (show k < 150 by omega), ek3 k (show k < 150 by omega), ek4 k (show k < 150 by omega), ek5 k (show k < 150 by omega), ek6 k (show k < 150 by omega), ek7 k (show k < 150 by omega)]; exact qzR_c2 h k hk)
    (fun k hk => by simp only [ex0_6, ex0_7, ex0_8, ex0_10, ex0_11, ex1, ex2, ex3, ex4, ex5, ex6, ex7, ex8, ex9, ex10, ex11, ex12, ex13, ex14, ex15, ex16, ex18, ex19, ex20, es0, es1, es4, es6, es7, es8, es9, es10, es11, es12, es13, es14, es15, es2, em, er, ek0 k (show k < 150 by omega), ek1 k (show k < 150 by omega), ek2 k (show k < 150 by omega), ek3 k (show k < 150 by omega), ek4 k (show k < 150 by omega), ek5 k (show k < 150 by omega), ek6 k (show k < 150 by omega), ek7 k (show k < 150 by omega)]; exact qzR_c3 h k hk)
    (fun k hk => by simp only [ex0_6, ex0_7, ex0_8, ex0_10, ex0_11, ex1, ex2, ex3, ex4, ex5, ex6, ex7, ex8, ex9, ex10, ex11, ex12, ex13, ex14, ex15, ex16, ex18, ex19, ex20, es0, es1, es4, es6, es7, es8, es9, es10, es11, es12, es13, es14, es15, es2, em, er, ek0 k (show k < 150 by omega), ek1 k (show k < 150 by omega), ek2 k (show k < 150 by omega), ek3 k (show k < 150 by omega), ek4 k (show k < 150 by omega), ek5 k (show k < 150 by omega), ek6 k (show k < 150 by omega), ek7 k (show k < 150 by omega)]; exact qzR_c4 h k hk)
    (fun k hk => by simp only [ex0_6, ex0_7, ex0_8, ex0_10, ex0_11, ex1, ex2, ex3, ex4, ex5, ex6, ex7, ex8, ex9, ex10, ex11, ex12, ex13, ex14, ex15, ex16, ex18, ex19, ex20, es0, es1, es4, es6, es7, es8, es9, es10, es11, es12, es13, es14, es15, es2, em, er, ek0 k (show k < 150 by omega), ek1 k (show k < 150 by omega), ek2 k (show k < 150 by omega), ek3 k (show k < 150 by omega), ek4 k (show k < 150 by omega), ek5 k (show k < 150 by omega), ek6 k (show k < 150 by omega), ek7 k (show k < 150 by omega)]; exact qzR_c5 h k hk)
    (fun k hk => by simp only [ex0_6, ex0_7, ex0_8, ex0_10, ex0_11, ex1, ex2, ex3, ex4, ex5, ex6, ex7, ex8, ex9, ex10, ex11, ex12, ex13, ex14, ex15, ex16, ex18, ex19, ex20, es0, es1, es4, es6, es7, es8, es9, es10, es11, es12, es13, es14, es15, es2, em, er, ek0 k (show k < 150 by omega), ek1 k (show k < 150 by omega), ek2 k (show k < 150 by omega), ek3 k (show k < 150 by omega), ek4 k (show k < 150 by omega), ek5 k (show k < 150 by omega), ek6 k (show k < 150 by omega), ek7 k (show k < 150 by omega)]; exact qzR_c6 h k hk)
    (fun k hk => by simp only [ex0_6, ex0_7, ex0_8, ex0_10, ex0_11, ex1, ex2, ex3, ex4, ex5, ex6, ex7, ex8, ex9, ex10, ex11, ex12, ex13, ex14, ex15, ex16, ex18, ex19, ex20, es0, es1, es4, es6, es7, es8, es9, es10, es11, es12, es13, es14, es15, es2, em, er, ek0 k (show k < 150 by omega), ek1 k (show k < 150 by omega), ek2 k (show k < 150 by omega), ek3 k (show k < 150 by omega), ek4 k (show k < 150 by omega), ek5 k (show k < 150 by omega), ek6 k (show k < 150 by omega), ek7 k (show k < 150 by omega)]; exact qzR_c7 h k hk)
    (fun k hk => by simp only [ex0_6, ex0_7, ex0_8, ex0_10, ex0_11, ex1, ex2, ex3, ex4, ex5, ex6, ex7, ex8, ex9, ex10, ex11, ex12, ex13, ex14, ex15, ex16, ex18, ex19, ex20, es0, es1, es4, es6, es7, es8, es9, es10, es11, es12, es13, es14, es15, es2, em, er, ek0 k (show k < 150 by omega), ek1 k (show k < 150 by omega), ek2 k (show k < 150 by omega), ek3 k (show k < 150 by omega), ek4 k (show k < 150 by omega), ek5 k (show k < 150 by omega), ek6 k (show k < 150 by omega), ek7 k (show k < 150 by omega)]; exact qzR_c8 h k hk)
    (fun k hk => by simp only [ex0_6, ex0_7, ex0_8, ex0_10, ex0_11, ex1, ex2, ex3, ex4, ex5, ex6, ex7, ex8, ex9, ex10, ex11, ex12, ex13, ex14, ex15, ex16, ex18, ex19, ex20, es0, es1, es4, es6, es7, es8, es9, es10, es11, es12, es13, es14, es15, es2, em, er, ek0 k (show k < 150 by omega), ek1 k (show k < 150 by omega), ek2 k (show k < 150 by omega), ek3 k (show k < 150 by omega), ek4 k (show k < 150 by omega), ek5 k (show k < 150 by omega), ek6 k (show k < 150 by omega), ek7 k (show k < 150 by omega)]; exact qzR_c9 h k hk)
    (fun j hj => by simp only [ex0_6, ex0_7, ex0_8, ex0_10, ex0_11, ex1, ex2, ex3, ex4, ex5, ex6, ex7, ex8, ex9, ex10, ex11, ex12, ex13, ex14, ex15, ex16, ex18, ex19, ex20, es0, es1, es4, es6, es7, es8, es9, es10, es11, es12, es13, es14, es15, es2, em, er, eg0 j (show j < 150 by omega), eg2 j (show j < 150 by omega), eg3 j (show j < 150 by omega)]; exact qzR_g11 h j hj)
    (fun j hj => by simp only [ex0_6, ex0_7, ex0_8, ex0_10, ex0_11, ex1, ex2, ex3, ex4, ex5, ex6, ex7, ex8, ex9, ex10, ex11, ex12, ex13, ex14, ex15, ex16, ex18, ex19, ex20, es0, es1, es4, es6, es7, es8, es9, es10, es11, es12, es13, es14, es15, es2, em, er, eg0 j (show j < 150 by omega), eg2 j (show j < 150 by omega), eg3 j (show j < 150 by omega)]; exact qzR_g14 h j hj)
    (fun j hj => by simp only [ex0_6, ex0_7, ex0_8, ex0_10, ex0_11, ex1, ex2, ex3, ex4, ex5, ex6, ex7, ex8, ex9, ex10, ex11, ex12, ex13, ex14, ex15, ex16, ex18, ex19, ex20, es0, es1, es4, es6, es7, es8, es9, es10, es11, es12, es13, es14, es15, es2, em, er, eg0 j (show j < 150 by omega), eg2 j (show j < 150 by omega), eg3 j (show j < 150 by omega)]; exact qzR_g12 h j hj)
    (fun j hj => by simp only [ex0_6, ex0_7, ex0_8, ex0_10, ex0_11, ex1, ex2, ex3, ex4, ex5, ex6, ex7, ex8, ex9, ex10, ex11, ex12, ex13, ex14, ex15, ex16, ex18, ex19, ex20, es0, es1, es4, es6, es7, es8, es9, es10, es11, es12, es13, es14, es15, es2, em, er, eg0 j (show j < 150 by omega), eg2 j (show j < 150 by omega), eg3 j (show j < 150 by omega)]; exact qzR_g13 h j hj)
    (fun j h1 h2 => by rw [eg2 j h2]; exact qzR_g0 h j h1 h2)
    (by first | exact qzR_b4 h | (simp only [ex0_6, ex0_7, ex0_8, ex0_10, ex0_11, ex1, ex2, ex3, ex4, ex5, ex6, ex7, ex8, ex9, ex10, ex11, ex12, ex13, ex14, ex15, ex16, ex18, ex19, ex20, es0, es1, es4, es6, es7, es8, es9, es10, es11, es12, es13, es14, es15, es2, em, er]; exact qzR_b4 h))
    (by first | exact qzR_b9 h | (simp only [ex0_6, ex0_7, ex0_8, ex0_10, ex0_11, ex1, ex2, ex3, ex4, ex5, ex6, ex7, ex8, ex9, ex10, ex11, ex12, ex13, ex14, ex15, ex16, ex18, ex19, ex20, es0, es1, es4, es6, es7, es8, es9, es10, es11, es12, es13, es14, es15, es2, em, er]; exact qzR_b9 h))
    (fun k hk => by simp only [ex0_6, ex0_7, ex0_8, ex0_10, ex0_11, ex1, ex2, ex3, ex4, ex5, ex6, ex7, ex8, ex9, ex10, ex11, ex12, ex13, ex14, ex15, ex16, ex18, ex19, ex20, es0, es1, es4, es6, es7, es8, es9, es10, es11, es12, es13, es14, es15, es2, em, er, ek0 k (show k < 150 by omega), ek1 k (show k < 150 by omega), ek2 k (show k < 150 by omega), ek3 k (show k < 150 by omega), ek4 k (show k < 150 by omega), ek5 k (show k < 150 by omega), ek6 k (show k < 150 by omega), ek7 k (show k < 150 by omega)]; exact qzR_kc h k hk)
    (fun k hk => by simp only [ex0_6, ex0_7, ex0_8, ex0_10, ex0_11, ex1, ex2, ex3, ex4, ex5, ex6, ex7, ex8, ex9, ex10, ex11, ex12, ex13, ex14, ex15, ex16, ex18, ex19, ex20, es0, es1, es4, es6, es7, es8, es9, es10, es11, es12, es13, es14, es15, es2, em, er, ek0 k (show k < 150 by omega), ek1 k (show k < 150 by omega), ek2 k (show k < 150 by omega), ek3 k (show k < 150 by omega), ek4 k (show k < 150 by omega), ek5 k (show k < 150 by omega), ek6 k (show k < 150 by omega), ek7 k (show k < 150 by omega)]; exact qzR_kr h k hk)
    (fun k hk => by simp only [ex0_6, ex0_7, ex0_8, ex0_10, ex0_11, ex1, ex2, ex3, ex4, ex5, ex6, ex7, ex8, ex9, ex10, ex11, ex12, ex13, ex14, ex15, ex16, ex18, ex19, ex20, es0, es1, es4, es6, es7, es8, es9, es10, es11, es12, es13, es14, es15, es2, em, er, ek0 k (show k < 150 by omega), ek1 k (show k < 150 by omega), ek2 k (show k < 150 by omega), ek3 k (show k < 150 by omega), ek4 k (show k < 150 by omega), ek5 k (show k < 150 by omega), ek6 k (show k < 150 by omega), ek7 k (show k < 150 by omega)]; exact qzR_kw h k hk)
    (fun k hk => by simp only [ex0_6, ex0_7, ex0_8, ex0_10, ex0_11, ex1, ex2, ex3, ex4, ex5, ex6, ex7, ex8, ex9, ex10, ex11, ex12, ex13, ex14, ex15, ex16, ex18, ex19, ex20, es0, es1, es4, es6, es7, es8, es9, es10, es11, es12, es13, es14, es15, es2, em, er, ek0 k (show k < 150 by omega), ek1 k (show k < 150 by omega), ek2 k (show k < 150 by omega), ek3 k (show k < 150 by omega), ek4 k (show k < 150 by omega), ek5 k (show k < 150 by omega), ek6 k (show k < 150 by omega), ek7 k (show k < 150 by omega)]; exact qzR_kg h k hk)
    (fun k hk => by simp only [ex0_6, ex0_7, ex0_8, ex0_10, ex0_11, ex1, ex2, ex3, ex4, ex5, ex6, ex7, ex8, ex9, ex10, ex11, ex12, ex13, ex14, ex15, ex16, ex18, ex19, ex20, es0, es1, es4, es6, es7, es8, es9, es10, es11, es12, es13, es14, es15, es2, em, er, ek0 k (show k < 150 by omega), ek1 k (show k < 150 by omega), ek2 k (show k < 150 by omega), ek3 k (show k < 150 by omega), ek4 k (show k < 150 by omega), ek5 k (show k < 150 by omega), ek6 k (show k < 150 by omega), ek7 k (show k < 150 by omega)]; exact fun h4 => ⟨(qzR_ko h k hk h4).1, fun j hj hg => by simp only [ex0_6, ex0_7, ex0_8, ex0_10, ex0_11, ex1, ex2, ex3, ex4, ex5, ex6, ex7, ex8, ex9, ex10, ex11, ex12, ex13, ex14, ex15, ex16, ex18, ex19, ex20, es0, es1, es4, es6, es7, es8, es9, es10, es11, es12, es13, es14, es15, es2, em, er, eg0 j (show j < 150 by omega), eg2 j (show j < 150 by omega), eg3 j (show j < 150 by omega)]; exact (qzR_ko h k hk h4).2 j hj hg⟩)
    (fun j hj => by simp only [ex0_6, ex0_7, ex0_8, ex0_10, ex0_11, ex1, ex2, ex3, ex4, ex5, ex6, ex7, ex8, ex9, ex10, ex11, ex12, ex13, ex14, ex15, ex16, ex18, ex19, ex20, es0, es1, es4, es6, es7, es8, es9, es10, es11, es12, es13, es14, es15, es2, em, er, eg0 j (show j < 150 by omega), eg2 j (show j < 150 by omega), eg3 j (show j < 150 by omega)]; exact qzR_gs h j hj)
    (Or.inr ⟨j0, hj0, es8.trans h8, (eg0 j0 (by omega)).trans hst, h09.trans hg1.symm, by obtain ⟨E, q1, q2⟩ := hE; exact ⟨E, q1, hg1.trans q2⟩⟩)
    (fun j hj => by simp only [ex0_6, ex0_7, ex0_8, ex0_10, ex0_11, ex1, ex2, ex3, ex4, ex5, ex6, ex7, ex8, ex9, ex10, ex11, ex12, ex13, ex14, ex15, ex16, ex18, ex19, ex20, es0, es1, es4, es6, es7, es8, es9, es10, es11, es12, es13, es14, es15, es2, em, er, eg0 j (show j < 150 by omega), eg2 j (show j < 150 by omega), eg3 j (show j < 150 by omega)]; exact qzR_gu h j hj)
    (fun k hk => by simp only [ex0_6, ex0_7, ex0_8, ex0_10, ex0_11, ex1, ex2, ex3, ex4, ex5, ex6, ex7, ex8, ex9, ex10, ex11, ex12, ex13, ex14, ex15, ex16, ex18, ex19, ex20, es0, es1, es4, es6, es7, es8, es9, es10, es11, es12, es13, es14, es15, es2, em, er, ek0 k (show k < 150 by omega), ek1 k (show k < 150 by omega), ek2 k (show k < 150 by omega), ek3 k (show k < 150 by omega), ek4 k (show k < 150 by omega), ek5 k (show k < 150 by omega), ek6 k (show k < 150 by omega), ek7 k (show k < 150 by omega)]; exact qzR_gm h k hk)
    (fun hb h8 => by rw [es8] at h8 ⊢; obtain ⟨k, q1, q2, q3⟩ := qzR_gi h hb h8; exact ⟨k, q1, (ek6 k (by omega)).trans q2, (ek7 k (by omega)).trans q3⟩)
    (by rcases qzR_wa h with q | ⟨j, h1, h2, h3, h4, L, h5, h6, h7⟩; (exact Or.inl (es9.trans q)); (exact Or.inr ⟨j, by omega, es9.trans h2, (eg0 j (by omega)).trans h3, (by simp only [ex0_6, ex0_7, ex0_8, ex0_10, ex0_11, ex1, ex2, ex3, ex4, ex5, ex6, ex7, ex8, ex9, ex10, ex11, ex12, ex13, ex14, ex15, ex16, ex18, ex19, ex20, es0, es1, es4, es6, es7, es8, es9, es10, es11, es12, es13, es14, es15, es2, em, er] : x2 0 11 = x 0 11).trans (h4.trans (eg3 j (by omega)).symm), L, h5, h6, (eg3 j (by omega)).trans h7⟩))
    (fun j hj => by simp only [ex0_6, ex0_7, ex0_8, ex0_10, ex0_11, ex1, ex2, ex3, ex4, ex5, ex6, ex7, ex8, ex9, ex10, ex11, ex12, ex13, ex14, ex15, ex16, ex18, ex19, ex20, es0, es1, es4, es6, es7, es8, es9, es10, es11, es12, es13, es14, es15, es2, em, er, eg0 j (show j < 150 by omega), eg2 j (show j < 150 by omega), eg3 j (show j < 150 by omega)]; exact qzR_wu h j hj)
    (by first | exact qzR_qf h | (simp only [ex0_6, ex0_7, ex0_8, ex0_10, ex0_11, ex1, ex2, ex3, ex4, ex5, ex6, ex7, ex8, ex9, ex10, ex11, ex12, ex13, ex14, ex15, ex16, ex18, ex19, ex20, es0, es1, es4, es6, es7, es8, es9, es10, es11, es12, es13, es14, es15, es2, em, er]; exact qzR_qf h))
    (by first | exact qzR_qe h | (simp only [ex0_6, ex0_7, ex0_8, ex0_10, ex0_11, ex1, ex2, ex3, ex4, ex5, ex6, ex7, ex8, ex9, ex10, ex11, ex12, ex13, ex14, ex15, ex16, ex18, ex19, ex20, es0, es1, es4, es6, es7, es8, es9, es10, es11, es12, es13, es14, es15, es2, em, er]; exact qzR_qe h))
    (by have q := qzR_qb h; simp only [es8]; exact q)
    (fun i h1 h2 => by rw [ex16]; obtain ⟨j, q1, q2, q3⟩ := qzR_qs h i h1 h2; exact ⟨j, q1, q2, (eg0 j (by omega)).trans q3⟩)
    (by first | exact qzR_qi h | (simp only [ex0_6, ex0_7, ex0_8, ex0_10, ex0_11, ex1, ex2, ex3, ex4, ex5, ex6, ex7, ex8, ex9, ex10, ex11, ex12, ex13, ex14, ex15, ex16, ex18, ex19, ex20, es0, es1, es4, es6, es7, es8, es9, es10, es11, es12, es13, es14, es15, es2, em, er]; exact qzR_qi h))
    (fun j hj h2 => by rw [eg0 j (by omega)] at h2; rw [ex16]; exact qzR_qc h j hj h2)
    (fun c hc => by rw [ex20]; rcases qzR_oc h c hc with ⟨q1, q2⟩ | ⟨k, q1, q2, q3, q4⟩; (exact Or.inl ⟨q1, fun k hk => by rw [ek3 k (by omega), ek0 k (by omega)]; exact q2 k hk⟩); (exact Or.inr ⟨k, q1, q2, (ek0 k (by omega)).trans q3, by rw [ek3 k (by omega)]; exact q4⟩))
    (fun k k2 h1 h2 => by rw [ek0 k (by omega), ek0 k2 (by omega), ek3 k (by omega), ek3 k2 (by omega)]; exact qzR_ou h k k2 h1 h2)
theorem qzo_give (h : qz_R x y n p f e t b) (hb : b ≠ 2) (hpn : p ≤ n) (hgi : y 8 ≠ -5 → ∃ k : Nat, k < n ∧ y (16 + 8 * k + 6) = y 8 ∧ y (16 + 8 * k + 7) = 1) : qz_R x y n p f e t 0 := by
  exact qz_R_mk (qzR_tx h) (qzR_ty h) (qzR_wx h) (qzR_wr h) (qzR_sx h) (qzR_s0 h) (qzR_s2 h) (qzR_nx h) (qzR_ny h) (qzR_nn h) (qzR_px h) (qzR_py h) ⟨(qzR_pn h).1, (qzR_pn h).2.1, fun _ => hpn⟩ (qzR_gx h) (qzR_vx h) (qzR_t0 h) (qzR_t1 h) (qzR_t2 h) (qzR_t3 h) (qzR_t4 h) (qzR_t5 h) (qzR_t6 h) (qzR_t7 h) (qzR_c2 h) (qzR_c3 h) (qzR_c4 h) (qzR_c5 h) (qzR_c6 h) (qzR_c7 h) (qzR_c8 h) (qzR_c9 h) (qzR_g11 h) (qzR_g14 h) (qzR_g12 h) (qzR_g13 h) (qzR_g0 h) (qzR_b4 h) (qzR_b9 h) (qzR_kc h) (qzR_kr h) (qzR_kw h) (qzR_kg h) (qzR_ko h) (qzR_gs h) (qzR_ga h) (qzR_gu h) (qzR_gm h) (fun _ => hgi) (by rcases qzR_wa h with q | ⟨j, h1, h2, h3, h4, L, h5, h6⟩; exact Or.inl q; exact Or.inr ⟨j, h1, h2, h3, h4, L, fun _ => h5 hb, h6⟩) (qzR_wu h) (qzR_qf h) (qzR_qe h) (qzR_qb h) (qzR_qs h) (qzR_qi h) (qzR_qc h) (qzR_oc h) (qzR_ou h)
end QO2
