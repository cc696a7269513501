-- the relation is kept by the great steps: written by wip/gen/ops3.py
section QO3
variable {x x2 : XT} {y y2 : Nat → Int32} {n p f e t b : Nat}
set_option maxHeartbeats 4000000 in
theorem qzo_close (h : qz_R x y n p f e t b) (hx : ∀ i : Nat, i < 21 → i ≠ 0 → i ≠ 5 → i ≠ 11 → i ≠ 14 → i ≠ 15 → i ≠ 16 → x2 i = x i) (hx0 : ∀ s : Nat, s ≠ 8 → x2 0 s = x 0 s) (hx15 : ∀ s : Nat, s ≠ 2 → x2 15 s = x 15 s) (hs : ∀ a : Nat, a < 16 → a ≠ 8 → y2 a = y a) (hk : ∀ k w : Nat, k < 150 → w < 8 → w ≠ 3 → y2 (16 + 8 * k + w) = y (16 + 8 * k + w)) (hg : ∀ j w : Nat, j < 150 → w < 4 → w ≠ 0 → w ≠ 2 → y2 (1216 + 4 * j + w) = y (1216 + 4 * j + w)) {j0 : Nat} {r : Int32} (hj0 : j0 + 1 = p) (h8 : y 8 = nI j0) (hst : y (1216 + 4 * j0 + 0) = 1) (h08 : x2 0 8 = -5) (h82 : y2 8 = -5) (h152 : x2 15 2 = nI (e + 1)) (h5 : ∀ k : Nat, k < n → x2 5 k = if qz_mb y k (nI j0) then 2 else x 5 k) (h3 : ∀ k : Nat, k < n → y2 (16 + 8 * k + 3) = if qz_mb y k (nI j0) then 2 else y (16 + 8 * k + 3)) (h11 : ∀ j : Nat, x2 11 j = if j = j0 then 2 else x 11 j) (h14 : ∀ j : Nat, x2 14 j = if j = j0 then r else x 14 j) (h16 : ∀ i : Nat, x2 16 i = if i = e then nI j0 else x 16 i) (hg0 : ∀ j : Nat, j < 150 → y2 (1216 + 4 * j + 0) = if j = j0 then 2 else y (1216 + 4 * j + 0)) (hg2 : ∀ j : Nat, j < 150 → y2 (1216 + 4 * j + 2) = if j = j0 then r else y (1216 + 4 * j + 2)) : qz_R x2 y2 n p f (e + 1) t b := by
  have ex0_6 : x2 0 6 = x 0 6 := hx0 6 (by decide)
  have ex0_7 : x2 0 7 = x 0 7 := hx0 7 (by decide)
  have ex0_9 : x2 0 9 = x 0 9 := hx0 9 (by decide)
  have ex0_10 : x2 0 10 = x 0 10 := hx0 10 (by decide)
  have ex0_11 : x2 0 11 = x 0 11 := hx0 11 (by decide)
  have ex1 : x2 1 = x 1 := hx 1 (by decide) (by decide) (by decide) (by decide) (by decide) (by decide) (by decide)
  have ex2 : x2 2 = x 2 := hx 2 (by decide) (by decide) (by decide) (by decide) (by decide) (by decide) (by decide)
  have ex3 : x2 3 = x 3 := hx 3 (by decide) (by decide) (by decide) (by decide) (by decide) (by decide) (by decide)
  have ex4 : x2 4 = x 4 := hx 4 (by decide) (by decide) (by decide) (by decide) (by decide) (by decide) (by decide)
  have ex6 : x2 6 = x 6 := hx 6 (by decide) (by decide) (by decide) (by decide) (by decide) (by decide) (by decide)
  have ex7 : x2 7 = x 7 := hx 7 (by decide) (by decide) (by decide) (by decide) (by decide) (by decide) (by decide)
  have ex8 : x2 8 = x 8 := hx 8 (by decide) (by decide) (by decide) (by decide) (by decide) (by decide) (by decide)
  have ex9 : x2 9 = x 9 := hx 9 (by decide) (by decide) (by decide) (by decide) (by decide) (by decide) (by decide)
  have ex10 : x2 10 = x 10 := hx 10 (by decide) (by decide) (by decide) (by decide) (by decide) (by decide) (by decide)
  have ex12 : x2 12 = x 12 := hx 12 (by decide) (by decide) (by decide) (by decide) (by decide) (by decide) (by decide)
  have ex13 : x2 13 = x 13 := hx 13 (by decide) (by decide) (by decide) (by decide) (by decide) (by decide) (by decide)
  have ex15_1 : x2 15 1 = x 15 1 := hx15 1 (by decide)
  have ex18 : x2 18 = x 18 := hx 18 (by decide) (by decide) (by decide) (by decide) (by decide) (by decide) (by decide)
  have ex19 : x2 19 = x 19 := hx 19 (by decide) (by decide) (by decide) (by decide) (by decide) (by decide) (by decide)
  have ex20 : x2 20 = x 20 := hx 20 (by decide) (by decide) (by decide) (by decide) (by decide) (by decide) (by decide)
  have es0 : y2 0 = y 0 := hs 0 (by decide) (by decide)
  have es1 : y2 1 = y 1 := hs 1 (by decide) (by decide)
  have es4 : y2 4 = y 4 := hs 4 (by decide) (by decide)
  have es6 : y2 6 = y 6 := hs 6 (by decide) (by decide)
  have es7 : y2 7 = y 7 := hs 7 (by decide) (by decide)
  have es9 : y2 9 = y 9 := hs 9 (by decide) (by decide)
  have es10 : y2 10 = y 10 := hs 10 (by decide) (by decide)
  have es11 : y2 11 = y 11 := hs 11 (by decide) (by decide)
  have es12 : y2 12 = y 12 := hs 12 (by decide) (by decide)
  have es13 : y2 13 = y 13 := hs 13 (by decide) (by decide)
  have es14 : y2 14 = y 14 := hs 14 (by decide) (by decide)
  have es15 : y2 15 = y 15 := hs 15 (by decide) (by decide)
  have es2 : y2 2 = y 2 := hs 2 (by decide) (by decide)
  have esS : ∀ i : Nat, i < 4 → y2 (2 + i) = y (2 + i) := fun i hi => hs (2 + i) (by omega) (by omega)
  have ek0 : ∀ k : Nat, k < 150 → y2 (16 + 8 * k + 0) = y (16 + 8 * k + 0) := fun k q => hk k 0 q (by decide) (by decide)
  have ek1 : ∀ k : Nat, k < 150 → y2 (16 + 8 * k + 1) = y (16 + 8 * k + 1) := fun k q => hk k 1 q (by decide) (by decide)
  have ek2 : ∀ k : Nat, k < 150 → y2 (16 + 8 * k + 2) = y (16 + 8 * k + 2) := fun k q => hk k 2 q (by decide) (by decide)
  have ek4 : ∀ k : Nat, k < 150 → y2 (16 + 8 * k + 4) = y (16 + 8 * k + 4) := fun k q => hk k 4 q (by decide) (by decide)
  have ek5 : ∀ k : Nat, k < 150 → y2 (16 + 8 * k + 5) = y (16 + 8 * k + 5) := fun k q => hk k 5 q (by decide) (by decide)
  have ek6 : ∀ k : Nat, k < 150 → y2 (16 + 8 * k + 6) = y (16 + 8 * k + 6) := fun k q => hk k 6 q (by decide) (by decide)
  have ek7 : ∀ k : Nat, k < 150 → y2 (16 + 8 * k + 7) = y (16 + 8 * k + 7) := fun k q => hk k 7 q (by decide) (by decide)
  have eg1 : ∀ j : Nat, j < 150 → y2 (1216 + 4 * j + 1) = y (1216 + 4 * j + 1) := fun j q => hg j 1 q (by decide) (by decide) (by decide)
  have eg3 : ∀ j : Nat, j < 150 → y2 (1216 + 4 * j + 3) = y (1216 + 4 * j + 3) := fun j q => hg j 3 q (by decide) (by decide) (by decide)
  have hn0 : n ≤ 150 := qzR_nn h
  have hp0 : p ≤ 150 := (qzR_pn h).1
  have em : ∀ g : Int32, qz_mem y2 n g = qz_mem y n g := fun g => qz_sum_c n (fun k hk => by simp only [qz_mb, ek6 k (by omega), ek7 k (by omega)])
  have er : ∀ g : Int32, qz_rec y2 n g = qz_rec y n g := fun g => qz_sum_c n (fun k hk => by simp only [qz_mb, ek1 k (by omega), ek6 k (by omega), ek7 k (by omega)])
  have hep : e < p := (qzR_qb h).2.2 (by rw [h8]; exact qz_n5 (by omega))
  have hm1 : ∀ k : Nat, k < n → qz_mb y k (nI j0) → y (16 + 8 * k + 3) = 1 := fun k hk q => qzR_gm h k hk (q.1.trans h8.symm) q.2
  have ho : ∀ k : Nat, k < n → (¬ 4 ≤ y2 (16 + 8 * k + 3) ↔ ¬ 4 ≤ y (16 + 8 * k + 3)) := fun k hk => by
    rw [h3 k hk]
    by_cases q : qz_mb y k (nI j0)
    · rw [if_pos q, hm1 k hk q]
      exact ⟨fun _ => by decide, fun _ => by decide⟩
    · rw [if_neg q]
  exact qz_R_mk
    (by first | exact qzR_tx h | (simp only [ex0_6, ex0_7, ex0_9, ex0_10, ex0_11, ex1, ex2, ex3, ex4, ex6, ex7, ex8, ex9, ex10, ex12, ex13, ex15_1, ex18, ex19, ex20, es0, es1, es4, es6, es7, es9, es10, es11, es12, es13, es14, es15, es2, em, er]; exact qzR_tx h))
    (by first | exact qzR_ty h | (simp only [ex0_6, ex0_7, ex0_9, ex0_10, ex0_11, ex1, ex2, ex3, ex4, ex6, ex7, ex8, ex9, ex10, ex12, ex13, ex15_1, ex18, ex19, ex20, es0, es1, es4, es6, es7, es9, es10, es11, es12, es13, es14, es15, es2, em, er]; exact qzR_ty h))
    (by first | exact qzR_wx h | (simp only [ex0_6, ex0_7, ex0_9, ex0_10, ex0_11, ex1, ex2, ex3, ex4, ex6, ex7, ex8, ex9, ex10, ex12, ex13, ex15_1, ex18, ex19, ex20, es0, es1, es4, es6, es7, es9, es10, es11, es12, es13, es14, es15, es2, em, er]; exact qzR_wx h))
    (by first | exact qzR_wr h | (simp only [ex0_6, ex0_7, ex0_9, ex0_10, ex0_11, ex1, ex2, ex3, ex4, ex6, ex7, ex8, ex9, ex10, ex12, ex13, ex15_1, ex18, ex19, ex20, es0, es1, es4, es6, es7, es9, es10, es11, es12, es13, es14, es15, es2, em, er]; exact qzR_wr h))
    (fun i hi => by rw [ex18, esS i hi]; exact qzR_sx h i hi)
    (by first | exact qzR_s0 h | (simp only [ex0_6, ex0_7, ex0_9, ex0_10, ex0_11, ex1, ex2, ex3, ex4, ex6, ex7, ex8, ex9, ex10, ex12, ex13, ex15_1, ex18, ex19, ex20, es0, es1, es4, es6, es7, es9, es10, es11, es12, es13, es14, es15, es2, em, er]; exact qzR_s0 h))
    (by first | exact qzR_s2 h | (simp only [ex0_6, ex0_7, ex0_9, ex0_10, ex0_11, ex1, ex2, ex3, ex4, ex6, ex7, ex8, ex9, ex10, ex12, ex13, ex15_1, ex18, ex19, ex20, es0, es1, es4, es6, es7, es9, es10, es11, es12, es13, es14, es15, es2, em, er]; exact qzR_s2 h))
    (by first | exact qzR_nx h | (simp only [ex0_6, ex0_7, ex0_9, ex0_10, ex0_11, ex1, ex2, ex3, ex4, ex6, ex7, ex8, ex9, ex10, ex12, ex13, ex15_1, ex18, ex19, ex20, es0, es1, es4, es6, es7, es9, es10, es11, es12, es13, es14, es15, es2, em, er]; exact qzR_nx h))
    (by first | exact qzR_ny h | (simp only [ex0_6, ex0_7, ex0_9, ex0_10, ex0_11, ex1, ex2, ex3, ex4, ex6, ex7, ex8, ex9, ex10, ex12, ex13, ex15_1, ex18, ex19, ex20, es0, es1, es4, es6, es7, es9, es10, es11, es12, es13, es14, es15, es2, em, er]; exact qzR_ny h))
    (by first | exact qzR_nn h | (simp only [ex0_6, ex0_7, ex0_9, ex0_10, ex0_11, ex1, ex2, ex3, ex4, ex6, ex7, ex8, ex9, ex10, ex12, ex13, ex15_1, ex18, ex19, ex20, es0, es1, es4, es6, es7, es9, es10, es11, es12, es13, es14, es15, es2, em, er]; exact qzR_nn h))
    (by first | exact qzR_px h | (simp only [ex0_6, ex0_7, ex0_9, ex0_10, ex0_11, ex1, ex2, ex3, ex4, ex6, ex7, ex8, ex9, ex10, ex12, ex13, ex15_1, ex18, ex19, ex20, es0, es1, es4, es6, es7, es9, es10, es11, es12, es13, es14, es15, es2, em, er]; exact qzR_px h))
    (by first | exact qzR_py h | (simp only [ex0_6, ex0_7, ex0_9, ex0_10, ex0_11, ex1, ex2, ex3, ex4, ex6, ex7, ex8, ex9, ex10, ex12, ex13, ex15_1, ex18, ex19, ex20, es0, es1, es4, es6, es7, es9, es10, es11, es12, es13, es14, es15, es2, em, er]; exact qzR_py h))
    (by first | exact qzR_pn h | (simp only [ex0_6, ex0_7, ex0_9, ex0_10, ex0_11, ex1, ex2, ex3, ex4, ex6, ex7, ex8, ex9, ex10, ex12, ex13, ex15_1, ex18, ex19, ex20, es0, es1, es4, es6, es7, es9, es10, es11, es12, es13, es14, es15, es2, em, er]; exact qzR_pn h))
    (h08.trans h82.symm)
    (by first | exact qzR_vx h | (simp only [ex0_6, ex0_7, ex0_9, ex0_10, ex0_11, ex1, ex2, ex3, ex4, ex6, ex7, ex8, ex9, ex10, ex12, ex13, ex15_1, ex18, ex19, ex20, es0, es1, es4, es6, es7, es9, es10, es11, es12, es13, es14, es15, es2, em, er]; exact qzR_vx h))
    (by first | exact qzR_t0 h | (simp only [ex0_6, ex0_7, ex0_9, ex0_10, ex0_11, ex1, ex2, ex3, ex4, ex6, ex7, ex8, ex9, ex10, ex12, ex13, ex15_1, ex18, ex19, ex20, es0, es1, es4, es6, es7, es9, es10, es11, es12, es13, es14, es15, es2, em, er]; exact qzR_t0 h))
    (by first | exact qzR_t1 h | (simp only [ex0_6, ex0_7, ex0_9, ex0_10, ex0_11, ex1, ex2, ex3, ex4, ex6, ex7, ex8, ex9, ex10, ex12, ex13, ex15_1, ex18, ex19, ex20, es0, es1, es4, es6, es7, es9, es10, es11, es12, es13, es14, es15, es2, em, er]; exact qzR_t1 h))
    (by first | exact qzR_t2 h | (simp only [ex0_6, ex0_7, ex0_9, ex0_10, ex0_11, ex1, ex2, ex3, ex4, ex6, ex7, ex8, ex9, ex10, ex12, ex13, ex15_1, ex18, ex19, ex20, es0, es1, es4, es6, es7, es9, es10, es11, es12, es13, es14, es15, es2, em, er]; exact qzR_t2 h))
    (by first | exact qzR_t3 h | (simp only [ex0_6, ex0_7, ex0_9, ex0_10, ex0_11, ex1, ex2, ex3, ex4, ex6, ex7, ex8, ex9, ex10, ex12, ex13, ex15_1, ex18, ex19, ex20, es0, es1, es4, es6, es7, es9, es10, es11, es12, es13, es14, es15, es2, em, er]; exact qzR_t3 h))
    (by first | exact qzR_t4 h | (simp only [ex0_6, ex0_7, ex0_9, ex0_10, ex0_11, ex1, ex2, ex3, ex4, ex6, ex7, ex8, ex9, ex10, ex12, ex13, ex15_1, ex18, ex19, ex20, es0, es1, es4, es6, es7, es9, es10, es11, es12, es13, es14, es15, es2, em, er]; exact qzR_t4 h))
    (by first | exact qzR_t5 h | (simp only [ex0_6, ex0_7, ex0_9, ex0_10, ex0_11, ex1, ex2, ex3, ex4, ex6, ex7, ex8, ex9, ex10, ex12, ex13, ex15_1, ex18, ex19, ex20, es0, es1, es4, es6, es7, es9, es10, es11, es12, es13, es14, es15, es2, em, er]; exact qzR_t5 h))
    (by first | exact qzR_t6 h | (simp only [ex0_6, ex0_7, ex0_9, ex0_10, ex0_11, ex1, ex2, ex3, ex4, ex6, ex7, ex8, ex9, ex10, ex12, ex13, ex15_1, ex18, ex19, ex20, es0, es1, es4, es6, es7, es9, es10, es11, es12, es13, es14, es15, es2, em, er]; exact qzR_t6 h))
    (by first | exact qzR_t7 h | (simp only [ex0_6, ex0_7, ex0_9, ex0_10, ex0_11, ex1, ex2, ex3, ex4, ex6, ex7, ex8, ex9, ex10, ex12, ex13, ex15_1, ex18, ex19, ex20, es0, es1, es4, es6, es7, es9, es10, es11, es12, es13, es14, es15, es2, em, er]; exact qzR_t7 h))
    (fun k hk => by simp only [ex0_6, ex0_7, ex0_9, ex0_10, ex0_11, ex1, ex2, ex3, ex4, ex6, ex7, ex8, ex9, ex10, ex12, ex13, ex15_1, ex18, ex19, ex20, es0, es1, es4, es6, es7, es9, es10, es11, es12, es13, es14, es15, es2, em, er, ek0 k (show k < 150 by omega), ek1 k (show k < 150 by omega), ek2 k (show k < 150 by omega), ek4 k (show k < 150 by omega), ek5 k (show k < 150 by omega), ek6 k (show k < 150 by omega), ek7 k (show k < 150 by omega)]; exact qzR_c2 h k hk)
    (fun k hk => by simp only [ex0_6, ex0_7, ex0_9, ex0_10, ex0_11, ex1, ex2, ex3, ex4, ex6, ex7, ex8, ex9, ex10, ex12, ex13, ex15_1, ex18, ex19, ex20, es0, es1, es4, es6, es7, es9, es10, es11, es12, es13, es14, es15, es2, em, er, ek0 k (show k < 150 by omega), ek1 k (show k < 150 by omega), ek2 k (show k < 150 by omega), ek4 k (show k < 150 by omega), ek5 k (show k < 150 by omega), ek6 k (show k < 150 by omega), ek7 k (show k < 150 by omega)]; exact qzR_c3 h k hk)
    (fun k hk => by simp only [ex0_6, ex0_7, ex0_9, ex0_10, ex0_11, ex1, ex2, ex3, ex4, ex6, ex7, ex8, ex9, ex10, ex12, ex13, ex15_1, ex18, ex19, ex20, es0, es1, es4, es6, es7, es9, es10, es11, es12, es13, es14, es15, es2, em, er, ek0 k (show k < 150 by omega), ek1 k (show k < 150 by omega), ek2 k (show k < 150 by omega), ek4 k (show k < 150 by omega), ek5 k (show k < 150 by omega), ek6 k (show k < 150 by omega), ek7 k (show k < 150 by omega)]; exact qzR_c4 h k hk)
    (fun k hk => by rw [h5 k hk, h3 k hk]; split; rfl; exact qzR_c5 h k hk)
    (fun k hk => by simp only [ex0_6, ex0_7, ex0_9, ex0_10, ex0_11, ex1, ex2, ex3, ex4, ex6, ex7, ex8, ex9, ex10, ex12, ex13, ex15_1, ex18, ex19, ex20, es0, es1, es4, es6, es7, es9, es10, es11, es12, es13, es14, es15, es2, em, er, ek0 k (show k < 150 by omega), ek1 k (show k < 150 by omega), ek2 k (show k < 150 by omega), ek4 k (show k < 150 by omega), ek5 k (show k < 150 by omega), ek6 k (show k < 150 by omega), ek7 k (show k < 150 by omega)]; exact qzR_c6 h k hk)
    (fun k hk => by simp only [ex0_6, ex0_7, ex0_9, ex0_10, ex0_11, ex1, ex2, ex3, ex4, ex6, ex7, ex8, ex9, ex10, ex12, ex13, ex15_1, ex18, ex19, ex20, es0, es1, es4, es6, es7, es9, es10, es11, es12, es13, es14, es15, es2, em, er, ek0 k (show k < 150 by omega), ek1 k (show k < 150 by omega), ek2 k (show k < 150 by omega), ek4 k (show k < 150 by omega), ek5 k (show k < 150 by omega), ek6 k (show k < 150 by omega), ek7 k (show k < 150 by omega)]; exact qzR_c7 h k hk)
    (fun k hk => by simp only [ex0_6, ex0_7, ex0_9, ex0_10, ex0_11, ex1, ex2, ex3, ex4, ex6, ex7, ex8, ex9, ex10, ex12, ex13, ex15_1, ex18, ex19, ex20, es0, es1, es4, es6, es7, es9, es10, es11, es12, es13, es14, es15, es2, em, er, ek0 k (show k < 150 by omega), ek1 k (show k < 150 by omega), ek2 k (show k < 150 by omega), ek4 k (show k < 150 by omega), ek5 k (show k < 150 by omega), ek6 k (show k < 150 by omega), ek7 k (show k < 150 by omega)]; exact qzR_c8 h k hk)
    (fun k hk => by simp only [ex0_6, ex0_7, ex0_9, ex0_10, ex0_11, ex1, ex2, ex3, ex4, ex6, ex7, ex8, ex9, ex10, ex12, ex13, ex15_1, ex18, ex19, ex20, es0, es1, es4, es6, es7, es9, es10, es11, es12, es13, es14, es15, es2, em, er, ek0 k (show k < 150 by omega), ek1 k (show k < 150 by omega), ek2 k (show k < 150 by omega), ek4 k (show k < 150 by omega), ek5 k (show k < 150 by omega), ek6 k (show k < 150 by omega), ek7 k (show k < 150 by omega)]; exact qzR_c9 h k hk)
    (fun j hj => by rw [h11, hg0 j (by omega)]; split; rfl; exact qzR_g11 h j hj)
    (fun j hj => by rw [h14, hg2 j (by omega)]; split; rfl; exact qzR_g14 h j hj)
    (fun j hj => by simp only [ex0_6, ex0_7, ex0_9, ex0_10, ex0_11, ex1, ex2, ex3, ex4, ex6, ex7, ex8, ex9, ex10, ex12, ex13, ex15_1, ex18, ex19, ex20, es0, es1, es4, es6, es7, es9, es10, es11, es12, es13, es14, es15, es2, em, er, eg1 j (show j < 150 by omega), eg3 j (show j < 150 by omega)]; exact qzR_g12 h j hj)
    (fun j hj => by simp only [ex0_6, ex0_7, ex0_9, ex0_10, ex0_11, ex1, ex2, ex3, ex4, ex6, ex7, ex8, ex9, ex10, ex12, ex13, ex15_1, ex18, ex19, ex20, es0, es1, es4, es6, es7, es9, es10, es11, es12, es13, es14, es15, es2, em, er, eg1 j (show j < 150 by omega), eg3 j (show j < 150 by omega)]; exact qzR_g13 h j hj)
    (fun j h1 h2 => by rw [hg2 j h2, if_neg (by omega)]; exact qzR_g0 h j h1 h2)
    (by first | exact qzR_b4 h | (simp only [ex0_6, ex0_7, ex0_9, ex0_10, ex0_11, ex1, ex2, ex3, ex4, ex6, ex7, ex8, ex9, ex10, ex12, ex13, ex15_1, ex18, ex19, ex20, es0, es1, es4, es6, es7, es9, es10, es11, es12, es13, es14, es15, es2, em, er]; exact qzR_b4 h))
    (by first | exact qzR_b9 h | (simp only [ex0_6, ex0_7, ex0_9, ex0_10, ex0_11, ex1, ex2, ex3, ex4, ex6, ex7, ex8, ex9, ex10, ex12, ex13, ex15_1, ex18, ex19, ex20, es0, es1, es4, es6, es7, es9, es10, es11, es12, es13, es14, es15, es2, em, er]; exact qzR_b9 h))
    (fun k hk => by simp only [ex0_6, ex0_7, ex0_9, ex0_10, ex0_11, ex1, ex2, ex3, ex4, ex6, ex7, ex8, ex9, ex10, ex12, ex13, ex15_1, ex18, ex19, ex20, es0, es1, es4, es6, es7, es9, es10, es11, es12, es13, es14, es15, es2, em, er, ek0 k (show k < 150 by omega), ek1 k (show k < 150 by omega), ek2 k (show k < 150 by omega), ek4 k (show k < 150 by omega), ek5 k (show k < 150 by omega), ek6 k (show k < 150 by omega), ek7 k (show k < 150 by omega)]; exact qzR_kc h k hk)
    (fun k hk => by simp only [ex0_6, ex0_7, ex0_9, ex0_10, ex0_11, ex1, ex2, ex3, ex4, ex6, ex7, ex8, ex9, ex10, ex12, ex13, ex15_1, ex18, ex19, ex20, es0, es1, es4, es6, es7, es9, es10, es11, es12, es13, es14, es15, es2, em, er, ek0 k (show k < 150 by omega), ek1 k (show k < 150 by omega), ek2 k (show k < 150 by omega), ek4 k (show k < 150 by omega), ek5 k (show k < 150 by omega), ek6 k (show k < 150 by omega), ek7 k (show k < 150 by omega)]; exact qzR_kr h k hk)
    (fun k hk => by rw [h3 k hk]; split; exact ⟨2, by omega, by omega, rfl⟩; exact qzR_kw h k hk)
    (fun k hk => by simp only [ex0_6, ex0_7, ex0_9, ex0_10, ex0_11, ex1, ex2, ex3, ex4, ex6, ex7, ex8, ex9, ex10, ex12, ex13, ex15_1, ex18, ex19, ex20, es0, es1, es4, es6, es7, es9, es10, es11, es12, es13, es14, es15, es2, em, er, ek0 k (show k < 150 by omega), ek1 k (show k < 150 by omega), ek2 k (show k < 150 by omega), ek4 k (show k < 150 by omega), ek5 k (show k < 150 by omega), ek6 k (show k < 150 by omega), ek7 k (show k < 150 by omega)]; exact qzR_kg h k hk)
    (fun k hk q => by
      obtain ⟨u, v⟩ := qzR_ko h k hk ((ho k hk).mp q)
      rw [ek7 k (by omega), ek6 k (by omega)]
      refine ⟨u, fun j hj hgj => ?_⟩
      rw [hg0 j (by omega), h3 k hk]
      by_cases e1 : j = j0
      · rw [if_pos e1, if_pos ⟨e1 ▸ hgj, u⟩]
      · rw [if_neg e1, if_neg (fun q2 => e1 ((nI_eq (by omega) (by omega)).mp (hgj.symm.trans q2.1)))]
        exact v j hj hgj)
    (fun j hj => by rw [hg0 j (by omega)]; split; exact ⟨2, by omega, by omega, rfl⟩; exact qzR_gs h j hj)
    (Or.inl h82)
    (fun j hj q => by rw [hg0 j (by omega)] at q; by_cases e1 : j = j0; (rw [if_pos e1] at q; exact absurd q (by decide)); (rw [if_neg e1] at q; have q2 := qzR_gu h j hj q; rw [h8, nI_eq (by omega) (by omega)] at q2; exact absurd q2.symm e1))
    (fun k hk q1 _ => by rw [ek6 k (by omega), h82] at q1; obtain ⟨j, hj, e1⟩ := qzR_kg h k hk; rw [e1] at q1; exact absurd q1 (qz_n5 (by omega)))
    (fun _ q => absurd h82 q)
    (by
      rcases qzR_wa h with q | ⟨j, h1, h2, h3, h4, L, h5, h6, h7⟩
      · exact Or.inl (es9.trans q)
      · have hne : j ≠ j0 := fun e1 => by rw [e1, hst] at h3; exact absurd h3 (by decide)
        exact Or.inr ⟨j, h1, es9.trans h2, by rw [hg0 j (by omega), if_neg hne]; exact h3, ex0_11.trans (h4.trans (eg3 j (by omega)).symm), L, h5, h6, (eg3 j (by omega)).trans h7⟩)
    (fun j hj q => by rw [hg0 j (by omega)] at q; by_cases e1 : j = j0; (rw [if_pos e1] at q; exact absurd q (by decide)); (rw [if_neg e1] at q; rw [es9]; exact qzR_wu h j hj q))
    (by first | exact qzR_qf h | (simp only [ex0_6, ex0_7, ex0_9, ex0_10, ex0_11, ex1, ex2, ex3, ex4, ex6, ex7, ex8, ex9, ex10, ex12, ex13, ex15_1, ex18, ex19, ex20, es0, es1, es4, es6, es7, es9, es10, es11, es12, es13, es14, es15, es2, em, er]; exact qzR_qf h))
    h152
    (by have q := qzR_qb h; exact ⟨by omega, by omega, fun q2 => absurd h82 q2⟩)
    (fun i h1 h2 => by
      rw [h16]
      by_cases e1 : i = e
      · rw [if_pos e1]
        exact ⟨j0, by omega, rfl, by rw [hg0 j0 (by omega), if_pos rfl]⟩
      · rw [if_neg e1]
        obtain ⟨j, q1, q2, q3⟩ := qzR_qs h i h1 (by omega)
        exact ⟨j, q1, q2, by rw [hg0 j (by omega), if_neg (fun e1 => by rw [e1, hst] at q3; exact absurd q3 (by decide))]; exact q3⟩)
    (fun i i2 j j2 h1 h2 h3 hj hj2 q1 q2 => by
      rw [h16, if_neg (by omega)] at q1
      rw [h16] at q2
      by_cases e1 : i2 = e
      · rw [if_pos e1, nI_eq (by omega) (by omega)] at q2
        obtain ⟨j3, u1, u2, u3⟩ := qzR_qs h i h1 (by omega)
        rw [q1, nI_eq (by omega) (by omega)] at u2
        have hne : j ≠ j0 := fun e2 => by rw [← u2, e2, hst] at u3; exact absurd u3 (by decide)
        omega
      · rw [if_neg e1] at q2
        exact qzR_qi h i i2 j j2 h1 h2 (by omega) hj hj2 q1 q2)
    (fun j hj q => by
      rw [hg0 j (by omega)] at q
      by_cases e1 : j = j0
      · have q := qzR_qb h
        exact ⟨e, q.1, by omega, by rw [h16, if_pos rfl, e1]⟩
      · rw [if_neg e1] at q
        obtain ⟨i, u1, u2, u3⟩ := qzR_qc h j hj q
        exact ⟨i, u1, by omega, by rw [h16, if_neg (by omega)]; exact u3⟩)
    (fun c hc => by
      rw [ex20]
      rcases qzR_oc h c hc with ⟨q1, q2⟩ | ⟨k, q1, q2, q3, q4⟩
      · exact Or.inl ⟨q1, fun k hk q => by rw [ek0 k (by omega)]; exact q2 k hk ((ho k hk).mp q)⟩
      · exact Or.inr ⟨k, q1, q2, (ek0 k (by omega)).trans q3, (ho k q1).mpr q4⟩)
    (fun k k2 h1 h2 q1 q2 q3 => by rw [ek0 k (by omega), ek0 k2 (by omega)] at q1; exact qzR_ou h k k2 h1 h2 q1 ((ho k h1).mp q2) ((ho k2 h2).mp q3))
set_option maxHeartbeats 4000000 in
theorem qzo_start (h : qz_R x y n p f e t b) (hx : ∀ i : Nat, i < 21 → i ≠ 0 → i ≠ 5 → i ≠ 11 → i ≠ 15 → x2 i = x i) (hx0 : ∀ s : Nat, s ≠ 10 → s ≠ 11 → x2 0 s = x 0 s) (hx15 : ∀ s : Nat, s ≠ 1 → x2 15 s = x 15 s) (hs : ∀ a : Nat, a < 16 → a ≠ 9 → y2 a = y a) (hk : ∀ k w : Nat, k < 150 → w < 8 → w ≠ 3 → y2 (16 + 8 * k + w) = y (16 + 8 * k + w)) (hg : ∀ j w : Nat, j < 150 → w < 4 → w ≠ 0 → w ≠ 3 → y2 (1216 + 4 * j + w) = y (1216 + 4 * j + w)) {j0 : Nat} {v : Int32} (h9 : y 9 = -5) (hfe : f < e) (h16 : x 16 f = nI j0) (hj0 : j0 < p) (hst : y (1216 + 4 * j0 + 0) = 2) (h010 : x2 0 10 = nI j0) (h92 : y2 9 = nI j0) (h011 : x2 0 11 = v) (hg3 : y2 (1216 + 4 * j0 + 3) = v) (hL : ∃ L : Nat, 1 ≤ L ∧ L ≤ 400 ∧ v = nI L) (h151 : x2 15 1 = nI (f + 1)) (h5 : ∀ k : Nat, k < n → x2 5 k = if qz_mb y k (nI j0) ∧ ¬ 4 ≤ y (16 + 8 * k + 3) then 3 else x 5 k) (h3 : ∀ k : Nat, k < n → y2 (16 + 8 * k + 3) = if qz_mb y k (nI j0) ∧ ¬ 4 ≤ y (16 + 8 * k + 3) then 3 else y (16 + 8 * k + 3)) (h11 : ∀ j : Nat, x2 11 j = if j = j0 then 3 else x 11 j) (hg0 : ∀ j : Nat, j < 150 → y2 (1216 + 4 * j + 0) = if j = j0 then 3 else y (1216 + 4 * j + 0)) : qz_R x2 y2 n p (f + 1) e t b := by
  have ex0_6 : x2 0 6 = x 0 6 := hx0 6 (by decide) (by decide)
  have ex0_7 : x2 0 7 = x 0 7 := hx0 7 (by decide) (by decide)
  have ex0_8 : x2 0 8 = x 0 8 := hx0 8 (by decide) (by decide)
  have ex0_9 : x2 0 9 = x 0 9 := hx0 9 (by decide) (by decide)
  have ex1 : x2 1 = x 1 := hx 1 (by decide) (by decide) (by decide) (by decide) (by decide)
  have ex2 : x2 2 = x 2 := hx 2 (by decide) (by decide) (by decide) (by decide) (by decide)
  have ex3 : x2 3 = x 3 := hx 3 (by decide) (by decide) (by decide) (by decide) (by decide)
  have ex4 : x2 4 = x 4 := hx 4 (by decide) (by decide) (by decide) (by decide) (by decide)
  have ex6 : x2 6 = x 6 := hx 6 (by decide) (by decide) (by decide) (by decide) (by decide)
  have ex7 : x2 7 = x 7 := hx 7 (by decide) (by decide) (by decide) (by decide) (by decide)
  have ex8 : x2 8 = x 8 := hx 8 (by decide) (by decide) (by decide) (by decide) (by decide)
  have ex9 : x2 9 = x 9 := hx 9 (by decide) (by decide) (by decide) (by decide) (by decide)
  have ex10 : x2 10 = x 10 := hx 10 (by decide) (by decide) (by decide) (by decide) (by decide)
  have ex12 : x2 12 = x 12 := hx 12 (by decide) (by decide) (by decide) (by decide) (by decide)
  have ex13 : x2 13 = x 13 := hx 13 (by decide) (by decide) (by decide) (by decide) (by decide)
  have ex14 : x2 14 = x 14 := hx 14 (by decide) (by decide) (by decide) (by decide) (by decide)
  have ex15_2 : x2 15 2 = x 15 2 := hx15 2 (by decide)
  have ex16 : x2 16 = x 16 := hx 16 (by decide) (by decide) (by decide) (by decide) (by decide)
  have ex18 : x2 18 = x 18 := hx 18 (by decide) (by decide) (by decide) (by decide) (by decide)
  have ex19 : x2 19 = x 19 := hx 19 (by decide) (by decide) (by decide) (by decide) (by decide)
  have ex20 : x2 20 = x 20 := hx 20 (by decide) (by decide) (by decide) (by decide) (by decide)
  have es0 : y2 0 = y 0 := hs 0 (by decide) (by decide)
  have es1 : y2 1 = y 1 := hs 1 (by decide) (by decide)
  have es4 : y2 4 = y 4 := hs 4 (by decide) (by decide)
  have es6 : y2 6 = y 6 := hs 6 (by decide) (by decide)
  have es7 : y2 7 = y 7 := hs 7 (by decide) (by decide)
  have es8 : y2 8 = y 8 := hs 8 (by decide) (by decide)
  have es10 : y2 10 = y 10 := hs 10 (by decide) (by decide)
  have es11 : y2 11 = y 11 := hs 11 (by decide) (by decide)
  have es12 : y2 12 = y 12 := hs 12 (by decide) (by decide)
  have es13 : y2 13 = y 13 := hs 13 (by decide) (by decide)
  have es14 : y2 14 = y 14 := hs 14 (by decide) (by decide)
  have es15 : y2 15 = y 15 := hs 15 (by decide) (by decide)
  have es2 : y2 2 = y 2 := hs 2 (by decide) (by decide)
  have esS : ∀ i : Nat, i < 4 → y2 (2 + i) = y (2 + i) := fun i hi => hs (2 + i) (by omega) (by omega)
  have ek0 : ∀ k : Nat, k < 150 → y2 (16 + 8 * k + 0) = y (16 + 8 * k + 0) := fun k q => hk k 0 q (by decide) (by decide)
  have ek1 : ∀ k : Nat, k < 150 → y2 (16 + 8 * k + 1) = y (16 + 8 * k + 1) := fun k q => hk k 1 q (by decide) (by decide)
  have ek2 : ∀ k : Nat, k < 150 → y2 (16 + 8 * k + 2) = y (16 + 8 * k + 2) := fun k q => hk k 2 q (by decide) (by decide)
  have ek4 : ∀ k : Nat, k < 150 → y2 (16 + 8 * k + 4) = y (16 + 8 * k + 4) := fun k q => hk k 4 q (by decide) (by decide)
  have ek5 : ∀ k : Nat, k < 150 → y2 (16 + 8 * k + 5) = y (16 + 8 * k + 5) := fun k q => hk k 5 q (by decide) (by decide)
  have ek6 : ∀ k : Nat, k < 150 → y2 (16 + 8 * k + 6) = y (16 + 8 * k + 6) := fun k q => hk k 6 q (by decide) (by decide)
  have ek7 : ∀ k : Nat, k < 150 → y2 (16 + 8 * k + 7) = y (16 + 8 * k + 7) := fun k q => hk k 7 q (by decide) (by decide)
  have eg1 : ∀ j : Nat, j < 150 → y2 (1216 + 4 * j + 1) = y (1216 + 4 * j + 1) := fun j q => hg j 1 q (by decide) (by decide) (by decide)
  have eg2 : ∀ j : Nat, j < 150 → y2 (1216 + 4 * j + 2) = y (1216 + 4 * j + 2) := fun j q => hg j 2 q (by decide) (by decide) (by decide)
  have hn0 : n ≤ 150 := qzR_nn h
  have hp0 : p ≤ 150 := (qzR_pn h).1
  have em : ∀ g : Int32, qz_mem y2 n g = qz_mem y n g := fun g => qz_sum_c n (fun k hk => by simp only [qz_mb, ek6 k (by omega), ek7 k (by omega)])
  have er : ∀ g : Int32, qz_rec y2 n g = qz_rec y n g := fun g => qz_sum_c n (fun k hk => by simp only [qz_mb, ek1 k (by omega), ek6 k (by omega), ek7 k (by omega)])
  have ho : ∀ k : Nat, k < n → (¬ 4 ≤ y2 (16 + 8 * k + 3) ↔ ¬ 4 ≤ y (16 + 8 * k + 3)) := fun k hk => by
    rw [h3 k hk]
    by_cases q : qz_mb y k (nI j0) ∧ ¬ 4 ≤ y (16 + 8 * k + 3)
    · rw [if_pos q]
      exact ⟨fun _ => q.2, fun _ => by decide⟩
    · rw [if_neg q]
  have h8j : y 8 ≠ nI j0 := fun q => by
    rcases qzR_ga h with q1 | ⟨j, q1, q2, q3, _⟩
    · rw [q1] at q; exact qz_5n (by omega) q
    · rw [q, nI_eq (by omega) (by omega)] at q2
      rw [← q2, hst] at q3
      exact absurd q3 (by decide)
  exact qz_R_mk
    (by first | exact qzR_tx h | (simp only [ex0_6, ex0_7, ex0_8, ex0_9, ex1, ex2, ex3, ex4, ex6, ex7, ex8, ex9, ex10, ex12, ex13, ex14, ex15_2, ex16, ex18, ex19, ex20, es0, es1, es4, es6, es7, es8, es10, es11, es12, es13, es14, es15, es2, em, er]; exact qzR_tx h))
    (by first | exact qzR_ty h | (simp only [ex0_6, ex0_7, ex0_8, ex0_9, ex1, ex2, ex3, ex4, ex6, ex7, ex8, ex9, ex10, ex12, ex13, ex14, ex15_2, ex16, ex18, ex19, ex20, es0, es1, es4, es6, es7, es8, es10, es11, es12, es13, es14, es15, es2, em, er]; exact qzR_ty h))
    (by first | exact qzR_wx h | (simp only [ex0_6, ex0_7, ex0_8, ex0_9, ex1, ex2, ex3, ex4, ex6, ex7, ex8, ex9, ex10, ex12, ex13, ex14, ex15_2, ex16, ex18, ex19, ex20, es0, es1, es4, es6, es7, es8, es10, es11, es12, es13, es14, es15, es2, em, er]; exact qzR_wx h))
    (by first | exact qzR_wr h | (simp only [ex0_6, ex0_7, ex0_8, ex0_9, ex1, ex2, ex3, ex4, ex6, ex7, ex8, ex9, ex10, ex12, ex13, ex14, ex15_2, ex16, ex18, ex19, ex20, es0, es1, es4, es6, es7, es8, es10, es11, es12, es13, es14, es15, es2, em, er]; exact qzR_wr h))
    (fun i hi => by rw [ex18, esS i hi]; exact qzR_sx h i hi)
    (by first | exact qzR_s0 h | (simp only [ex0_6, ex0_7, ex0_8, ex0_9, ex1, ex2, ex3, ex4, ex6, ex7, ex8, ex9, ex10, ex12, ex13, ex14, ex15_2, ex16, ex18, ex19, ex20, es0, es1, es4, es6, es7, es8, es10, es11, es12, es13, es14, es15, es2, em, er]; exact qzR_s0 h))
    (by first | exact qzR_s2 h | (simp only [ex0_6, ex0_7, ex0_8, ex0_9, ex1, ex2, ex3, ex4, ex6, ex7, ex8, ex9, ex10, ex12, ex13, ex14, ex15_2, ex16, ex18, ex19, ex20, es0, es1, es4, es6, es7, es8, es10, es11, es12, es13, es14, es15, es2, em, er]; exact qzR_s2 h))
    (by first | exact qzR_nx h | (simp only [ex0_6, ex0_7, ex0_8, ex0_9, ex1, ex2, ex3, ex4, ex6, ex7, ex8, ex9, ex10, ex12, ex13, ex14, ex15_2, ex16, ex18, ex19, ex20, es0, es1, es4, es6, es7, es8, es10, es11, es12, es13, es14, es15, es2, em, er]; exact qzR_nx h))
    (by first | exact qzR_ny h | (simp only [ex0_6, ex0_7, ex0_8, ex0_9, ex1, ex2, ex3, ex4, ex6, ex7, ex8, ex9, ex10, ex12, ex13, ex14, ex15_2, ex16, ex18, ex19, ex20, es0, es1, es4, es6, es7, es8, es10, es11, es12, es13, es14, es15, es2, em, er]; exact qzR_ny h))
    (by first | exact qzR_nn h | (simp only [ex0_6, ex0_7, ex0_8, ex0_9, ex1, ex2, ex3, ex4, ex6, ex7, ex8, ex9, ex10, ex12, ex13, ex14, ex15_2, ex16, ex18, ex19, ex20, es0, es1, es4, es6, es7, es8, es10, es11, es12, es13, es14, es15, es2, em, er]; exact qzR_nn h))
    (by first | exact qzR_px h | (simp only [ex0_6, ex0_7, ex0_8, ex0_9, ex1, ex2, ex3, ex4, ex6, ex7, ex8, ex9, ex10, ex12, ex13, ex14, ex15_2, ex16, ex18, ex19, ex20, es0, es1, es4, es6, es7, es8, es10, es11, es12, es13, es14, es15, es2, em, er]; exact qzR_px h))
    (by first | exact qzR_py h | (simp only [ex0_6, ex0_7, ex0_8, ex0_9, ex1, ex2, ex3, ex4, ex6, ex7, ex8, ex9, ex10, ex12, ex13, ex14, ex15_2, ex16, ex18, ex19, ex20, es0, es1, es4, es6, es7, es8, es10, es11, es12, es13, es14, es15, es2, em, er]; exact qzR_py h))
    (by first | exact qzR_pn h | (simp only [ex0_6, ex0_7, ex0_8, ex0_9, ex1, ex2, ex3, ex4, ex6, ex7, ex8, ex9, ex10, ex12, ex13, ex14, ex15_2, ex16, ex18, ex19, ex20, es0, es1, es4, es6, es7, es8, es10, es11, es12, es13, es14, es15, es2, em, er]; exact qzR_pn h))
    (by first | exact qzR_gx h | (simp only [ex0_6, ex0_7, ex0_8, ex0_9, ex1, ex2, ex3, ex4, ex6, ex7, ex8, ex9, ex10, ex12, ex13, ex14, ex15_2, ex16, ex18, ex19, ex20, es0, es1, es4, es6, es7, es8, es10, es11, es12, es13, es14, es15, es2, em, er]; exact qzR_gx h))
    (h010.trans h92.symm)
    (by first | exact qzR_t0 h | (simp only [ex0_6, ex0_7, ex0_8, ex0_9, ex1, ex2, ex3, ex4, ex6, ex7, ex8, ex9, ex10, ex12, ex13, ex14, ex15_2, ex16, ex18, ex19, ex20, es0, es1, es4, es6, es7, es8, es10, es11, es12, es13, es14, es15, es2, em, er]; exact qzR_t0 h))
    (by first | exact qzR_t1 h | (simp only [ex0_6, ex0_7, ex0_8, ex0_9, ex1, ex2, ex3, ex4, ex6, ex7, ex8, ex9, ex10, ex12, ex13, ex14, ex15_2, ex16, ex18, ex19, ex20, es0, es1, es4, es6, es7, es8, es10, es11, es12, es13, es14, es15, es2, em, er]; exact qzR_t1 h))
    (by first | exact qzR_t2 h | (simp only [ex0_6, ex0_7, ex0_8, ex0_9, ex1, ex2, ex3, ex4, ex6, ex7, ex8, ex9, ex10, ex12, ex13, ex14, ex15_2, ex16, ex18, ex19, ex20, es0, es1, es4, es6, es7, es8, es10, es11, es12, es13, es14, es15, es2, em, er]; exact qzR_t2 h))
    (by first | exact qzR_t3 h | (simp only [ex0_6, ex0_7, ex0_8, ex0_9, ex1, ex2, ex3, ex4, ex6, ex7, ex8, ex9, ex10, ex12, ex13, ex14, ex15_2, ex16, ex18, ex19, ex20, es0, es1, es4, es6, es7, es8, es10, es11, es12, es13, es14, es15, es2, em, er]; exact qzR_t3 h))
    (by first | exact qzR_t4 h | (simp only [ex0_6, ex0_7, ex0_8, ex0_9, ex1, ex2, ex3, ex4, ex6, ex7, ex8, ex9, ex10, ex12, ex13, ex14, ex15_2, ex16, ex18, ex19, ex20, es0, es1, es4, es6, es7, es8, es10, es11, es12, es13, es14, es15, es2, em, er]; exact qzR_t4 h))
    (by first | exact qzR_t5 h | (simp only [ex0_6, ex0_7, ex0_8, ex0_9, ex1, ex2, ex3, ex4, ex6, ex7, ex8, ex9, ex10, ex12, ex13, ex14, ex15_2, ex16, ex18, ex19, ex20, es0, es1, es4, es6, es7, es8, es10, es11, es12, es13, es14, es15, es2, em, er]; exact qzR_t5 h))
    (by first | exact qzR_t6 h | (simp only [ex0_6, ex0_7, ex0_8, ex0_9, ex1, ex2, ex3, ex4, ex6, ex7, ex8, ex9, ex10, ex12, ex13, ex14, ex15_2, ex16, ex18, ex19, ex20, es0, es1, es4, es6, es7, es8, es10, es11, es12, es13, es14, es15, es2, em, er]; exact qzR_t6 h))
    (by first | exact qzR_t7 h | (simp only [ex0_6, ex0_7, ex0_8, ex0_9, ex1, ex2, ex3, ex4, ex6, ex7, ex8, ex9, ex10, ex12, ex13, ex14, ex15_2, ex16, ex18, ex19, ex20, es0, es1, es4, es6, es7, es8, es10, es11, es12, es13, es14, es15, es2, em, er]; exact qzR_t7 h))
    (fun k hk => by simp only [ex0_6, ex0_7, ex0_8, ex0_9, ex1, ex2, ex3, ex4, ex6, ex7, ex8, ex9, ex10, ex12, ex13, ex14, ex15_2, ex16, ex18, ex19, ex20, es0, es1, es4, es6, es7, es8, es10, es11, es12, es13, es14, es15, es2, em, er, ek0 k (show k < 150 by omega), ek1 k (show k < 150 by omega), ek2 k (show k < 150 by omega), ek4 k (show k < 150 by omega), ek5 k (show k < 150 by omega), ek6 k (show k < 150 by omega), ek7 k (show k < 150 by omega)]; exact qzR_c2 h k hk)
    (fun k hk => by simp only [ex0_6, ex0_7, ex0_8, ex0_9, ex1, ex2, ex3, ex4, ex6, ex7, ex8, ex9, ex10, ex12, ex13, ex14, ex15_2, ex16, ex18, ex19, ex20, es0, es1, es4, es6, es7, es8, es10, es11, es12, es13, es14, es15, es2, em, er, ek0 k (show k < 150 by omega), ek1 k (show k < 150 by omega), ek2 k (show k < 150 by omega), ek4 k (show k < 150 by omega), ek5 k (show k < 150 by omega), ek6 k (show k < 150 by omega), ek7 k (show k < 150 by omega)]; exact qzR_c3 h k hk)
    (fun k hk => by simp only [ex0_6, ex0_7, ex0_8, ex0_9, ex1, ex2, ex3, ex4, ex6, ex7, ex8, ex9, ex10, ex12, ex13, ex14, ex15_2, ex16, ex18, ex19, ex20, es0, es1, es4, es6, es7, es8, es10, es11, es12, es13, es14, es15, es2, em, er, ek0 k (show k < 150 by omega), ek1 k (show k < 150 by omega), ek2 k (show k < 150 by omega), ek4 k (show k < 150 by omega), ek5 k (show k < 150 by omega), ek6 k (show k < 150 by omega), ek7 k (show k < 150 by omega)]; exact qzR_c4 h k hk)
    (fun k hk => by rw [h5 k hk, h3 k hk]; split; rfl; exact qzR_c5 h k hk)
    (fun k hk => by simp only [ex0_6, ex0_7, ex0_8, ex0_9, ex1, ex2, ex3, ex4, ex6, ex7, ex8, ex9, ex10, ex12, ex13, ex14, ex15_2, ex16, ex18, ex19, ex20, es0, es1, es4, es6, es7, es8, es10, es11, es12, es13, es14, es15, es2, em, er, ek0 k (show k < 150 by omega), ek1 k (show k < 150 by omega), ek2 k (show k < 150 by omega), ek4 k (show k < 150 by omega), ek5 k (show k < 150 by omega), ek6 k (show k < 150 by omega), ek7 k (show k < 150 by omega)]; exact qzR_c6 h k hk)
    (fun k hk => by simp only [ex0_6, ex0_7, ex0_8, ex0_9, ex1, ex2, ex3, ex4, ex6, ex7, ex8, ex9, ex10, ex12, ex13, ex14, ex15_2, ex16, ex18, ex19, ex20, es0, es1, es4, es6, es7, es8, es10, es11, es12, es13, es14, es15, es2, em, er, ek0 k (show k < 150 by omega), ek1 k (show k < 150 by omega), ek2 k (show k < 150 by omega), ek4 k (show k < 150 by omega), ek5 k (show k < 150 by omega), ek6 k (show k < 150 by omega), ek7 k (show k < 150 by omega)]; exact qzR_c7 h k hk)
    (fun k hk => by simp only [ex0_6, ex0_7, ex0_8, ex0_9, ex1, ex2, ex3, ex4, ex6, ex7, ex8, ex9, ex10, ex12, ex13, ex14, ex15_2, ex16, ex18, ex19, ex20, es0, es1, es4, es6, es7, es8, es10, es11, es12, es13, es14, es15, es2, em, er, ek0 k (show k < 150 by omega), ek1 k (show k < 150 by omega), ek2 k (show k < 150 by omega), ek4 k (show k < 150 by omega), ek5 k (show k < 150 by omega), ek6 k (show k < 150 by omega), ek7 k (show k < 150 by omega)]; exact qzR_c8 h k hk)
    (fun k hk => by simp only [ex0_6, ex0_7, ex0_8, ex0_9, ex1, ex2, ex3, ex4, ex6, ex7, ex8, ex9, ex10, ex12, ex13, ex14, ex15_2, ex16, ex18, ex19, ex20, es0, es1, es4, es6, es7, es8, es10, es11, es12, es13, es14, es15, es2, em, er, ek0 k (show k < 150 by omega), ek1 k (show k < 150 by omega), ek2 k (show k < 150 by omega), ek4 k (show k < 150 by omega), ek5 k (show k < 150 by omega), ek6 k (show k < 150 by omega), ek7 k (show k < 150 by omega)]; exact qzR_c9 h k hk)
    (fun j hj => by rw [h11, hg0 j (by omega)]; split; rfl; exact qzR_g11 h j hj)
    (fun j hj => by simp only [ex0_6, ex0_7, ex0_8, ex0_9, ex1, ex2, ex3, ex4, ex6, ex7, ex8, ex9, ex10, ex12, ex13, ex14, ex15_2, ex16, ex18, ex19, ex20, es0, es1, es4, es6, es7, es8, es10, es11, es12, es13, es14, es15, es2, em, er, eg1 j (show j < 150 by omega), eg2 j (show j < 150 by omega)]; exact qzR_g14 h j hj)
    (fun j hj => by simp only [ex0_6, ex0_7, ex0_8, ex0_9, ex1, ex2, ex3, ex4, ex6, ex7, ex8, ex9, ex10, ex12, ex13, ex14, ex15_2, ex16, ex18, ex19, ex20, es0, es1, es4, es6, es7, es8, es10, es11, es12, es13, es14, es15, es2, em, er, eg1 j (show j < 150 by omega), eg2 j (show j < 150 by omega)]; exact qzR_g12 h j hj)
    (fun j hj => by simp only [ex0_6, ex0_7, ex0_8, ex0_9, ex1, ex2, ex3, ex4, ex6, ex7, ex8, ex9, ex10, ex12, ex13, ex14, ex15_2, ex16, ex18, ex19, ex20, es0, es1, es4, es6, es7, es8, es10, es11, es12, es13, es14, es15, es2, em, er, eg1 j (show j < 150 by omega), eg2 j (show j < 150 by omega)]; exact qzR_g13 h j hj)
    (fun j h1 h2 => by rw [eg2 j h2]; exact qzR_g0 h j h1 h2)
    (by first | exact qzR_b4 h | (simp only [ex0_6, ex0_7, ex0_8, ex0_9, ex1, ex2, ex3, ex4, ex6, ex7, ex8, ex9, ex10, ex12, ex13, ex14, ex15_2, ex16, ex18, ex19, ex20, es0, es1, es4, es6, es7, es8, es10, es11, es12, es13, es14, es15, es2, em, er]; exact qzR_b4 h))
    (by first | exact qzR_b9 h | (simp only [ex0_6, ex0_7, ex0_8, ex0_9, ex1, ex2, ex3, ex4, ex6, ex7, ex8, ex9, ex10, ex12, ex13, ex14, ex15_2, ex16, ex18, ex19, ex20, es0, es1, es4, es6, es7, es8, es10, es11, es12, es13, es14, es15, es2, em, er]; exact qzR_b9 h))
    (fun k hk => by simp only [ex0_6, ex0_7, ex0_8, ex0_9, ex1, ex2, ex3, ex4, ex6, ex7, ex8, ex9, ex10, ex12, ex13, ex14, ex15_2, ex16, ex18, ex19, ex20, es0, es1, es4, es6, es7, es8, es10, es11, es12, es13, es14, es15, es2, em, er, ek0 k (show k < 150 by omega), ek1 k (show k < 150 by omega), ek2 k (show k < 150 by omega), ek4 k (show k < 150 by omega), ek5 k (show k < 150 by omega), ek6 k (show k < 150 by omega), ek7 k (show k < 150 by omega)]; exact qzR_kc h k hk)
    (fun k hk => by simp only [ex0_6, ex0_7, ex0_8, ex0_9, ex1, ex2, ex3, ex4, ex6, ex7, ex8, ex9, ex10, ex12, ex13, ex14, ex15_2, ex16, ex18, ex19, ex20, es0, es1, es4, es6, es7, es8, es10, es11, es12, es13, es14, es15, es2, em, er, ek0 k (show k < 150 by omega), ek1 k (show k < 150 by omega), ek2 k (show k < 150 by omega), ek4 k (show k < 150 by omega), ek5 k (show k < 150 by omega), ek6 k (show k < 150 by omega), ek7 k (show k < 150 by omega)]; exact qzR_kr h k hk)
    (fun k hk => by rw [h3 k hk]; split; exact ⟨3, by omega, by omega, rfl⟩; exact qzR_kw h k hk)
    (fun k hk => by simp only [ex0_6, ex0_7, ex0_8, ex0_9, ex1, ex2, ex3, ex4, ex6, ex7, ex8, ex9, ex10, ex12, ex13, ex14, ex15_2, ex16, ex18, ex19, ex20, es0, es1, es4, es6, es7, es8, es10, es11, es12, es13, es14, es15, es2, em, er, ek0 k (show k < 150 by omega), ek1 k (show k < 150 by omega), ek2 k (show k < 150 by omega), ek4 k (show k < 150 by omega), ek5 k (show k < 150 by omega), ek6 k (show k < 150 by omega), ek7 k (show k < 150 by omega)]; exact qzR_kg h k hk)
    (fun k hk q => by
      have q0 := (ho k hk).mp q
      obtain ⟨u, v⟩ := qzR_ko h k hk q0
      rw [ek7 k (by omega), ek6 k (by omega)]
      refine ⟨u, fun j hj hgj => ?_⟩
      rw [hg0 j (by omega), h3 k hk]
      by_cases e1 : j = j0
      · rw [if_pos e1, if_pos ⟨⟨e1 ▸ hgj, u⟩, q0⟩]
      · rw [if_neg e1, if_neg (fun q2 => e1 ((nI_eq (by omega) (by omega)).mp (hgj.symm.trans q2.1.1)))]
        exact v j hj hgj)
    (fun j hj => by rw [hg0 j (by omega)]; split; exact ⟨3, by omega, by omega, rfl⟩; exact qzR_gs h j hj)
    (by
      rcases qzR_ga h with q | ⟨j, h1, h2, h3, h4, E, h5, h6⟩
      · exact Or.inl (es8.trans q)
      · have hne : j ≠ j0 := fun e1 => h8j (by rw [h2, e1])
        exact Or.inr ⟨j, h1, es8.trans h2, by rw [hg0 j (by omega), if_neg hne]; exact h3, ex0_9.trans (h4.trans (eg1 j (by omega)).symm), E, h5, (eg1 j (by omega)).trans h6⟩)
    (fun j hj q => by rw [hg0 j (by omega)] at q; by_cases e1 : j = j0; (rw [if_pos e1] at q; exact absurd q (by decide)); (rw [if_neg e1] at q; rw [es8]; exact qzR_gu h j hj q))
    (fun k hk q1 q2 => by rw [ek6 k (by omega), es8] at q1; rw [ek7 k (by omega)] at q2; rw [h3 k hk, if_neg (fun q => h8j (q1.symm.trans q.1.1))]; exact qzR_gm h k hk q1 q2)
    (fun hb h8 => by rw [es8] at h8 ⊢; obtain ⟨k, q1, q2, q3⟩ := qzR_gi h hb h8; exact ⟨k, q1, (ek6 k (by omega)).trans q2, (ek7 k (by omega)).trans q3⟩)
    (by obtain ⟨L, q1, q2, q3⟩ := hL; exact Or.inr ⟨j0, hj0, h92, by rw [hg0 j0 (by omega), if_pos rfl], h011.trans hg3.symm, L, fun _ => q1, q2, hg3.trans q3⟩)
    (fun j hj q => by rw [hg0 j (by omega)] at q; by_cases e1 : j = j0; (rw [e1]; exact h92); (rw [if_neg e1] at q; exact absurd ((qzR_wu h j hj q).symm.trans h9) (qz_n5 (by omega))))
    h151
    (by first | exact qzR_qe h | (simp only [ex0_6, ex0_7, ex0_8, ex0_9, ex1, ex2, ex3, ex4, ex6, ex7, ex8, ex9, ex10, ex12, ex13, ex14, ex15_2, ex16, ex18, ex19, ex20, es0, es1, es4, es6, es7, es8, es10, es11, es12, es13, es14, es15, es2, em, er]; exact qzR_qe h))
    (by have q := qzR_qb h; rw [es8]; exact ⟨by omega, q.2.1, q.2.2⟩)
    (fun i h1 h2 => by
      rw [ex16]
      obtain ⟨j, q1, q2, q3⟩ := qzR_qs h i (by omega) h2
      have hlt := qzR_qi h f i j0 j (Nat.le_refl _) (by omega) h2 (by omega) (by omega) h16 q2
      exact ⟨j, q1, q2, by rw [hg0 j (by omega), if_neg (by omega)]; exact q3⟩)
    (fun i i2 j j2 h1 h2 h3 hj hj2 q1 q2 => by rw [ex16] at q1 q2; exact qzR_qi h i i2 j j2 (by omega) h2 h3 hj hj2 q1 q2)
    (fun j hj q => by
      rw [hg0 j (by omega)] at q
      by_cases e1 : j = j0
      · rw [if_pos e1] at q; exact absurd q (by decide)
      · rw [if_neg e1] at q
        obtain ⟨i, u1, u2, u3⟩ := qzR_qc h j hj q
        have hne : i ≠ f := fun e2 => e1 (by rw [e2, h16, nI_eq (by omega) (by omega)] at u3; exact u3.symm)
        exact ⟨i, by omega, u2, by rw [ex16]; exact u3⟩)
    (fun c hc => by
      rw [ex20]
      rcases qzR_oc h c hc with ⟨q1, q2⟩ | ⟨k, q1, q2, q3, q4⟩
      · exact Or.inl ⟨q1, fun k hk q => by rw [ek0 k (by omega)]; exact q2 k hk ((ho k hk).mp q)⟩
      · exact Or.inr ⟨k, q1, q2, (ek0 k (by omega)).trans q3, (ho k q1).mpr q4⟩)
    (fun k k2 h1 h2 q1 q2 q3 => by rw [ek0 k (by omega), ek0 k2 (by omega)] at q1; exact qzR_ou h k k2 h1 h2 q1 ((ho k h1).mp q2) ((ho k2 h2).mp q3))
set_option maxHeartbeats 4000000 in
theorem qzo_finish (h : qz_R x y n p f e t b) (hx : ∀ i : Nat, i < 21 → i ≠ 0 → i ≠ 5 → i ≠ 7 → i ≠ 11 → i ≠ 19 → i ≠ 20 → x2 i = x i) (hx0 : ∀ s : Nat, s ≠ 10 → x2 0 s = x 0 s) (hs : ∀ a : Nat, a < 16 → a ≠ 9 → a ≠ 10 → a ≠ 13 → a ≠ 14 → a ≠ 15 → y2 a = y a) (hk : ∀ k w : Nat, k < 150 → w < 8 → w ≠ 3 → w ≠ 5 → y2 (16 + 8 * k + w) = y (16 + 8 * k + w)) (hg : ∀ j w : Nat, j < 150 → w < 4 → w ≠ 0 → y2 (1216 + 4 * j + w) = y (1216 + 4 * j + w)) {j0 : Nat} (hb : b ≠ 1) (hj0 : j0 < p) (h9 : y 9 = nI j0) (hst : y (1216 + 4 * j0 + 0) = 3) (h010 : x2 0 10 = -5) (h92 : y2 9 = -5) (hT : x2 19 0 = y2 6 ∧ x2 19 1 = y2 10 ∧ x2 19 2 = y2 11 ∧ x2 19 3 = y2 12 ∧ x2 19 4 = y2 7 ∧ x2 19 5 = y2 13 ∧ x2 19 6 = y2 14 ∧ x2 19 7 = y2 15) (h5 : ∀ k : Nat, k < n → x2 5 k = if qz_mb y k (nI j0) ∧ y (16 + 8 * k + 3) = 3 then 4 else x 5 k) (h7 : ∀ k : Nat, k < n → x2 7 k = if qz_mb y k (nI j0) ∧ y (16 + 8 * k + 3) = 3 then nI t else x 7 k) (h3 : ∀ k : Nat, k < n → y2 (16 + 8 * k + 3) = if qz_mb y k (nI j0) ∧ y (16 + 8 * k + 3) = 3 then 4 else y (16 + 8 * k + 3)) (h55 : ∀ k : Nat, k < n → y2 (16 + 8 * k + 5) = if qz_mb y k (nI j0) ∧ y (16 + 8 * k + 3) = 3 then nI t else y (16 + 8 * k + 5)) (h11 : ∀ j : Nat, x2 11 j = if j = j0 then 4 else x 11 j) (hg0 : ∀ j : Nat, j < 150 → y2 (1216 + 4 * j + 0) = if j = j0 then 4 else y (1216 + 4 * j + 0)) (h20a : ∀ c k : Nat, c < 12 → k < n → x 20 c = nI k → (qz_mb y k (nI j0) ∧ y (16 + 8 * k + 3) = 3) → x2 20 c = -5) (h20b : ∀ c k : Nat, c < 12 → k < n → x 20 c = nI k → ¬ (qz_mb y k (nI j0) ∧ y (16 + 8 * k + 3) = 3) → x2 20 c = x 20 c) (h20c : ∀ c : Nat, c < 12 → x 20 c = -5 → x2 20 c = -5) : qz_R x2 y2 n p f e t 0 := by
  have ex0_6 : x2 0 6 = x 0 6 := hx0 6 (by decide)
  have ex0_7 : x2 0 7 = x 0 7 := hx0 7 (by decide)
  have ex0_8 : x2 0 8 = x 0 8 := hx0 8 (by decide)
  have ex0_9 : x2 0 9 = x 0 9 := hx0 9 (by decide)
  have ex0_11 : x2 0 11 = x 0 11 := hx0 11 (by decide)
  have ex1 : x2 1 = x 1 := hx 1 (by decide) (by decide) (by decide) (by decide) (by decide) (by decide) (by decide)
  have ex2 : x2 2 = x 2 := hx 2 (by decide) (by decide) (by decide) (by decide) (by decide) (by decide) (by decide)
  have ex3 : x2 3 = x 3 := hx 3 (by decide) (by decide) (by decide) (by decide) (by decide) (by decide) (by decide)
  have ex4 : x2 4 = x 4 := hx 4 (by decide) (by decide) (by decide) (by decide) (by decide) (by decide) (by decide)
  have ex6 : x2 6 = x 6 := hx 6 (by decide) (by decide) (by decide) (by decide) (by decide) (by decide) (by decide)
  have ex8 : x2 8 = x 8 := hx 8 (by decide) (by decide) (by decide) (by decide) (by decide) (by decide) (by decide)
  have ex9 : x2 9 = x 9 := hx 9 (by decide) (by decide) (by decide) (by decide) (by decide) (by decide) (by decide)
  have ex10 : x2 10 = x 10 := hx 10 (by decide) (by decide) (by decide) (by decide) (by decide) (by decide) (by decide)
  have ex12 : x2 12 = x 12 := hx 12 (by decide) (by decide) (by decide) (by decide) (by decide) (by decide) (by decide)
  have ex13 : x2 13 = x 13 := hx 13 (by decide) (by decide) (by decide) (by decide) (by decide) (by decide) (by decide)
  have ex14 : x2 14 = x 14 := hx 14 (by decide) (by decide) (by decide) (by decide) (by decide) (by decide) (by decide)
  have ex15 : x2 15 = x 15 := hx 15 (by decide) (by decide) (by decide) (by decide) (by decide) (by decide) (by decide)
  have ex16 : x2 16 = x 16 := hx 16 (by decide) (by decide) (by decide) (by decide) (by decide) (by decide) (by decide)
  have ex18 : x2 18 = x 18 := hx 18 (by decide) (by decide) (by decide) (by decide) (by decide) (by decide) (by decide)
  have es0 : y2 0 = y 0 := hs 0 (by decide) (by decide) (by decide) (by decide) (by decide) (by decide)
  have es1 : y2 1 = y 1 := hs 1 (by decide) (by decide) (by decide) (by decide) (by decide) (by decide)
  have es4 : y2 4 = y 4 := hs 4 (by decide) (by decide) (by decide) (by decide) (by decide) (by decide)
  have es6 : y2 6 = y 6 := hs 6 (by decide) (by decide) (by decide) (by decide) (by decide) (by decide)
  have es7 : y2 7 = y 7 := hs 7 (by decide) (by decide) (by decide) (by decide) (by decide) (by decide)
  have es8 : y2 8 = y 8 := hs 8 (by decide) (by decide) (by decide) (by decide) (by decide) (by decide)
  have es11 : y2 11 = y 11 := hs 11 (by decide) (by decide) (by decide) (by decide) (by decide) (by decide)
  have es12 : y2 12 = y 12 := hs 12 (by decide) (by decide) (by decide) (by decide) (by decide) (by decide)
  have es2 : y2 2 = y 2 := hs 2 (by decide) (by decide) (by decide) (by decide) (by decide) (by decide)
  have esS : ∀ i : Nat, i < 4 → y2 (2 + i) = y (2 + i) := fun i hi => hs (2 + i) (by omega) (by omega) (by omega) (by omega) (by omega) (by omega)
  have ek0 : ∀ k : Nat, k < 150 → y2 (16 + 8 * k + 0) = y (16 + 8 * k + 0) := fun k q => hk k 0 q (by decide) (by decide) (by decide)
  have ek1 : ∀ k : Nat, k < 150 → y2 (16 + 8 * k + 1) = y (16 + 8 * k + 1) := fun k q => hk k 1 q (by decide) (by decide) (by decide)
  have ek2 : ∀ k : Nat, k < 150 → y2 (16 + 8 * k + 2) = y (16 + 8 * k + 2) := fun k q => hk k 2 q (by decide) (by decide) (by decide)
  have ek4 : ∀ k : Nat, k < 150 → y2 (16 + 8 * k + 4) = y (16 + 8 * k + 4) := fun k q => hk k 4 q (by decide) (by decide) (by decide)
  have ek6 : ∀ k : Nat, k < 150 → y2 (16 + 8 * k + 6) = y (16 + 8 * k + 6) := fun k q => hk k 6 q (by decide) (by decide) (by decide)
  have ek7 : ∀ k : Nat, k < 150 → y2 (16 + 8 * k + 7) = y (16 + 8 * k + 7) := fun k q => hk k 7 q (by decide) (by decide) (by decide)
  have eg1 : ∀ j : Nat, j < 150 → y2 (1216 + 4 * j + 1) = y (1216 + 4 * j + 1) := fun j q => hg j 1 q (by decide) (by decide)
  have eg2 : ∀ j : Nat, j < 150 → y2 (1216 + 4 * j + 2) = y (1216 + 4 * j + 2) := fun j q => hg j 2 q (by decide) (by decide)
  have eg3 : ∀ j : Nat, j < 150 → y2 (1216 + 4 * j + 3) = y (1216 + 4 * j + 3) := fun j q => hg j 3 q (by decide) (by decide)
  have hn0 : n ≤ 150 := qzR_nn h
  have hp0 : p ≤ 150 := (qzR_pn h).1
  have em : ∀ g : Int32, qz_mem y2 n g = qz_mem y n g := fun g => qz_sum_c n (fun k hk => by simp only [qz_mb, ek6 k (by omega), ek7 k (by omega)])
  have er : ∀ g : Int32, qz_rec y2 n g = qz_rec y n g := fun g => qz_sum_c n (fun k hk => by simp only [qz_mb, ek1 k (by omega), ek6 k (by omega), ek7 k (by omega)])
  have ho : ∀ k : Nat, k < n → ¬ 4 ≤ y2 (16 + 8 * k + 3) → ¬ (qz_mb y k (nI j0) ∧ y (16 + 8 * k + 3) = 3) ∧ ¬ 4 ≤ y (16 + 8 * k + 3) := fun k hk q => by
    rw [h3 k hk] at q
    by_cases q2 : qz_mb y k (nI j0) ∧ y (16 + 8 * k + 3) = 3
    · rw [if_pos q2] at q
      exact absurd (by decide) q
    · rw [if_neg q2] at q
      exact ⟨q2, q⟩
  have h8j : y 8 ≠ nI j0 := fun q => by
    rcases qzR_ga h with q1 | ⟨j, q1, q2, q3, _⟩
    · rw [q1] at q; exact qz_5n (by omega) q
    · rw [q, nI_eq (by omega) (by omega)] at q2
      rw [← q2, hst] at q3
      exact absurd q3 (by decide)
  exact qz_R_mk
    (by first | exact qzR_tx h | (simp only [ex0_6, ex0_7, ex0_8, ex0_9, ex0_11, ex1, ex2, ex3, ex4, ex6, ex8, ex9, ex10, ex12, ex13, ex14, ex15, ex16, ex18, es0, es1, es4, es6, es7, es8, es11, es12, es2, em, er]; exact qzR_tx h))
    (by first | exact qzR_ty h | (simp only [ex0_6, ex0_7, ex0_8, ex0_9, ex0_11, ex1, ex2, ex3, ex4, ex6, ex8, ex9, ex10, ex12, ex13, ex14, ex15, ex16, ex18, es0, es1, es4, es6, es7, es8, es11, es12, es2, em, er]; exact qzR_ty h))
    (by first | exact qzR_wx h | (simp only [ex0_6, ex0_7, ex0_8, ex0_9, ex0_11, ex1, ex2, ex3, ex4, ex6, ex8, ex9, ex10, ex12, ex13, ex14, ex15, ex16, ex18, es0, es1, es4, es6, es7, es8, es11, es12, es2, em, er]; exact qzR_wx h))
    (by first | exact qzR_wr h | (simp only [ex0_6, ex0_7, ex0_8, ex0_9, ex0_11, ex1, ex2, ex3, ex4, ex6, ex8, ex9, ex10, ex12, ex13, ex14, ex15, ex16, ex18, es0, es1, es4, es6, es7, es8, es11, es12, es2, em, er]; exact qzR_wr h))
    (fun i hi => by rw [ex18, esS i hi]; exact qzR_sx h i hi)
    (by first | exact qzR_s0 h | (simp only [ex0_6, ex0_7, ex0_8, ex0_9, ex0_11, ex1, ex2, ex3, ex4, ex6, ex8, ex9, ex10, ex12, ex13, ex14, ex15, ex16, ex18, es0, es1, es4, es6, es7, es8, es11, es12, es2, em, er]; exact qzR_s0 h))
    (by first | exact qzR_s2 h | (simp only [ex0_6, ex0_7, ex0_8, ex0_9, ex0_11, ex1, ex2, ex3, ex4, ex6, ex8, ex9, ex10, ex12, ex13, ex14, ex15, ex16, ex18, es0, es1, es4, es6, es7, es8, es11, es12, es2, em, er]; exact qzR_s2 h))
    (by first | exact qzR_nx h | (simp only [ex0_6, ex0_7, ex0_8, ex0_9, ex0_11, ex1, ex2, ex3, ex4, ex6, ex8, ex9, ex10, ex12, ex13, ex14, ex15, ex16, ex18, es0, es1, es4, es6, es7, es8, es11, es12, es2, em, er]; exact qzR_nx h))
    (by first | exact qzR_ny h | (simp only [ex0_6, ex0_7, ex0_8, ex0_9, ex0_11, ex1, ex2, ex3, ex4, ex6, ex8, ex9, ex10, ex12, ex13, ex14, ex15, ex16, ex18, es0, es1, es4, es6, es7, es8, es11, es12, es2, em, er]; exact qzR_ny h))
    (by first | exact qzR_nn h | (simp only [ex0_6, ex0_7, ex0_8, ex0_9, ex0_11, ex1, ex2, ex3, ex4, ex6, ex8, ex9, ex10, ex12, ex13, ex14, ex15, ex16, ex18, es0, es1, es4, es6, es7, es8, es11, es12, es2, em, er]; exact qzR_nn h))
    (by first | exact qzR_px h | (simp only [ex0_6, ex0_7, ex0_8, ex0_9, ex0_11, ex1, ex2, ex3, ex4, ex6, ex8, ex9, ex10, ex12, ex13, ex14, ex15, ex16, ex18, es0, es1, es4, es6, es7, es8, es11, es12, es2, em, er]; exact qzR_px h))
    (by first | exact qzR_py h | (simp only [ex0_6, ex0_7, ex0_8, ex0_9, ex0_11, ex1, ex2, ex3, ex4, ex6, ex8, ex9, ex10, ex12, ex13, ex14, ex15, ex16, ex18, es0, es1, es4, es6, es7, es8, es11, es12, es2, em, er]; exact qzR_py h))
    ⟨hp0, (qzR_pn h).2.1, fun _ => (qzR_pn h).2.2 hb⟩
    (by first | exact qzR_gx h | (simp only [ex0_6, ex0_7, ex0_8, ex0_9, ex0_11, ex1, ex2, ex3, ex4, ex6, ex8, ex9, ex10, ex12, ex13, ex14, ex15, ex16, ex18, es0, es1, es4, es6, es7, es8, es11, es12, es2, em, er]; exact qzR_gx h))
    (h010.trans h92.symm)
    hT.1
    hT.2.1
    hT.2.2.1
    hT.2.2.2.1
    hT.2.2.2.2.1
    hT.2.2.2.2.2.1
    hT.2.2.2.2.2.2.1
    hT.2.2.2.2.2.2.2
    (fun k hk => by simp only [ex0_6, ex0_7, ex0_8, ex0_9, ex0_11, ex1, ex2, ex3, ex4, ex6, ex8, ex9, ex10, ex12, ex13, ex14, ex15, ex16, ex18, es0, es1, es4, es6, es7, es8, es11, es12, es2, em, er, ek0 k (show k < 150 by omega), ek1 k (show k < 150 by omega), ek2 k (show k < 150 by omega), ek4 k (show k < 150 by omega), ek6 k (show k < 150 by omega), ek7 k (show k < 150 by omega)]; exact qzR_c2 h k hk)
    (fun k hk => by simp only [ex0_6, ex0_7, ex0_8, ex0_9, ex0_11, ex1, ex2, ex3, ex4, ex6, ex8, ex9, ex10, ex12, ex13, ex14, ex15, ex16, ex18, es0, es1, es4, es6, es7, es8, es11, es12, es2, em, er, ek0 k (show k < 150 by omega), ek1 k (show k < 150 by omega), ek2 k (show k < 150 by omega), ek4 k (show k < 150 by omega), ek6 k (show k < 150 by omega), ek7 k (show k < 150 by omega)]; exact qzR_c3 h k hk)
    (fun k hk => by simp only [ex0_6, ex0_7, ex0_8, ex0_9, ex0_11, ex1, ex2, ex3, ex4, ex6, ex8, ex9, ex10, ex12, ex13, ex14, ex15, ex16, ex18, es0, es1, es4, es6, es7, es8, es11, es12, es2, em, er, ek0 k (show k < 150 by omega), ek1 k (show k < 150 by omega), ek2 k (show k < 150 by omega), ek4 k (show k < 150 by omega), ek6 k (show k < 150 by omega), ek7 k (show k < 150 by omega)]; exact qzR_c4 h k hk)
    (fun k hk => by rw [h5 k hk, h3 k hk]; split; rfl; exact qzR_c5 h k hk)
    (fun k hk => by simp only [ex0_6, ex0_7, ex0_8, ex0_9, ex0_11, ex1, ex2, ex3, ex4, ex6, ex8, ex9, ex10, ex12, ex13, ex14, ex15, ex16, ex18, es0, es1, es4, es6, es7, es8, es11, es12, es2, em, er, ek0 k (show k < 150 by omega), ek1 k (show k < 150 by omega), ek2 k (show k < 150 by omega), ek4 k (show k < 150 by omega), ek6 k (show k < 150 by omega), ek7 k (show k < 150 by omega)]; exact qzR_c6 h k hk)
    (fun k hk => by rw [h7 k hk, h55 k hk]; split; rfl; exact qzR_c7 h k hk)
    (fun k hk => by simp only [ex0_6, ex0_7, ex0_8, ex0_9, ex0_11, ex1, ex2, ex3, ex4, ex6, ex8, ex9, ex10, ex12, ex13, ex14, ex15, ex16, ex18, es0, es1, es4, es6, es7, es8, es11, es12, es2, em, er, ek0 k (show k < 150 by omega), ek1 k (show k < 150 by omega), ek2 k (show k < 150 by omega), ek4 k (show k < 150 by omega), ek6 k (show k < 150 by omega), ek7 k (show k < 150 by omega)]; exact qzR_c8 h k hk)
    (fun k hk => by simp only [ex0_6, ex0_7, ex0_8, ex0_9, ex0_11, ex1, ex2, ex3, ex4, ex6, ex8, ex9, ex10, ex12, ex13, ex14, ex15, ex16, ex18, es0, es1, es4, es6, es7, es8, es11, es12, es2, em, er, ek0 k (show k < 150 by omega), ek1 k (show k < 150 by omega), ek2 k (show k < 150 by omega), ek4 k (show k < 150 by omega), ek6 k (show k < 150 by omega), ek7 k (show k < 150 by omega)]; exact qzR_c9 h k hk)
    (fun j hj => by rw [h11, hg0 j (by omega)]; split; rfl; exact qzR_g11 h j hj)
    (fun j hj => by simp only [ex0_6, ex0_7, ex0_8, ex0_9, ex0_11, ex1, ex2, ex3, ex4, ex6, ex8, ex9, ex10, ex12, ex13, ex14, ex15, ex16, ex18, es0, es1, es4, es6, es7, es8, es11, es12, es2, em, er, eg1 j (show j < 150 by omega), eg2 j (show j < 150 by omega), eg3 j (show j < 150 by omega)]; exact qzR_g14 h j hj)
    (fun j hj => by simp only [ex0_6, ex0_7, ex0_8, ex0_9, ex0_11, ex1, ex2, ex3, ex4, ex6, ex8, ex9, ex10, ex12, ex13, ex14, ex15, ex16, ex18, es0, es1, es4, es6, es7, es8, es11, es12, es2, em, er, eg1 j (show j < 150 by omega), eg2 j (show j < 150 by omega), eg3 j (show j < 150 by omega)]; exact qzR_g12 h j hj)
    (fun j hj => by simp only [ex0_6, ex0_7, ex0_8, ex0_9, ex0_11, ex1, ex2, ex3, ex4, ex6, ex8, ex9, ex10, ex12, ex13, ex14, ex15, ex16, ex18, es0, es1, es4, es6, es7, es8, es11, es12, es2, em, er, eg1 j (show j < 150 by omega), eg2 j (show j < 150 by omega), eg3 j (show j < 150 by omega)]; exact qzR_g13 h j hj)
    (fun j h1 h2 => by rw [eg2 j h2]; exact qzR_g0 h j h1 h2)
    (by first | exact qzR_b4 h | (simp only [ex0_6, ex0_7, ex0_8, ex0_9, ex0_11, ex1, ex2, ex3, ex4, ex6, ex8, ex9, ex10, ex12, ex13, ex14, ex15, ex16, ex18, es0, es1, es4, es6, es7, es8, es11, es12, es2, em, er]; exact qzR_b4 h))
    (by first | exact qzR_b9 h | (simp only [ex0_6, ex0_7, ex0_8, ex0_9, ex0_11, ex1, ex2, ex3, ex4, ex6, ex8, ex9, ex10, ex12, ex13, ex14, ex15, ex16, ex18, es0, es1, es4, es6, es7, es8, es11, es12, es2, em, er]; exact qzR_b9 h))
    (fun k hk => by simp only [ex0_6, ex0_7, ex0_8, ex0_9, ex0_11, ex1, ex2, ex3, ex4, ex6, ex8, ex9, ex10, ex12, ex13, ex14, ex15, ex16, ex18, es0, es1, es4, es6, es7, es8, es11, es12, es2, em, er, ek0 k (show k < 150 by omega), ek1 k (show k < 150 by omega), ek2 k (show k < 150 by omega), ek4 k (show k < 150 by omega), ek6 k (show k < 150 by omega), ek7 k (show k < 150 by omega)]; exact qzR_kc h k hk)
    (fun k hk => by simp only [ex0_6, ex0_7, ex0_8, ex0_9, ex0_11, ex1, ex2, ex3, ex4, ex6, ex8, ex9, ex10, ex12, ex13, ex14, ex15, ex16, ex18, es0, es1, es4, es6, es7, es8, es11, es12, es2, em, er, ek0 k (show k < 150 by omega), ek1 k (show k < 150 by omega), ek2 k (show k < 150 by omega), ek4 k (show k < 150 by omega), ek6 k (show k < 150 by omega), ek7 k (show k < 150 by omega)]; exact qzR_kr h k hk)
    (fun k hk => by rw [h3 k hk]; split; exact ⟨4, by omega, by omega, rfl⟩; exact qzR_kw h k hk)
    (fun k hk => by simp only [ex0_6, ex0_7, ex0_8, ex0_9, ex0_11, ex1, ex2, ex3, ex4, ex6, ex8, ex9, ex10, ex12, ex13, ex14, ex15, ex16, ex18, es0, es1, es4, es6, es7, es8, es11, es12, es2, em, er, ek0 k (show k < 150 by omega), ek1 k (show k < 150 by omega), ek2 k (show k < 150 by omega), ek4 k (show k < 150 by omega), ek6 k (show k < 150 by omega), ek7 k (show k < 150 by omega)]; exact qzR_kg h k hk)
    (fun k hk q => by
      obtain ⟨q1, q0⟩ := ho k hk q
      obtain ⟨u, v⟩ := qzR_ko h k hk q0
      rw [ek7 k (by omega), ek6 k (by omega)]
      refine ⟨u, fun j hj hgj => ?_⟩
      have e1 : j ≠ j0 := fun e1 => q1 ⟨⟨e1 ▸ hgj, u⟩, by rw [← v j hj hgj, e1]; exact hst⟩
      rw [hg0 j (by omega), h3 k hk, if_neg e1, if_neg q1]
      exact v j hj hgj)
    (fun j hj => by rw [hg0 j (by omega)]; split; exact ⟨4, by omega, by omega, rfl⟩; exact qzR_gs h j hj)
    (by
      rcases qzR_ga h with q | ⟨j, h1, h2, h3, h4, E, h5, h6⟩
      · exact Or.inl (es8.trans q)
      · have hne : j ≠ j0 := fun e1 => h8j (by rw [h2, e1])
        exact Or.inr ⟨j, h1, es8.trans h2, by rw [hg0 j (by omega), if_neg hne]; exact h3, ex0_9.trans (h4.trans (eg1 j (by omega)).symm), E, h5, (eg1 j (by omega)).trans h6⟩)
    (fun j hj q => by rw [hg0 j (by omega)] at q; by_cases e1 : j = j0; (rw [if_pos e1] at q; exact absurd q (by decide)); (rw [if_neg e1] at q; rw [es8]; exact qzR_gu h j hj q))
    (fun k hk q1 q2 => by rw [ek6 k (by omega), es8] at q1; rw [ek7 k (by omega)] at q2; rw [h3 k hk, if_neg (fun q => h8j (q1.symm.trans q.1.1))]; exact qzR_gm h k hk q1 q2)
    (fun _ h8 => by rw [es8] at h8 ⊢; obtain ⟨k, q1, q2, q3⟩ := qzR_gi h hb h8; exact ⟨k, q1, (ek6 k (by omega)).trans q2, (ek7 k (by omega)).trans q3⟩)
    (Or.inl h92)
    (fun j hj q => by rw [hg0 j (by omega)] at q; by_cases e1 : j = j0; (rw [if_pos e1] at q; exact absurd q (by decide)); (rw [if_neg e1] at q; have q2 := qzR_wu h j hj q; rw [h9, nI_eq (by omega) (by omega)] at q2; exact absurd q2.symm e1))
    (by first | exact qzR_qf h | (simp only [ex0_6, ex0_7, ex0_8, ex0_9, ex0_11, ex1, ex2, ex3, ex4, ex6, ex8, ex9, ex10, ex12, ex13, ex14, ex15, ex16, ex18, es0, es1, es4, es6, es7, es8, es11, es12, es2, em, er]; exact qzR_qf h))
    (by first | exact qzR_qe h | (simp only [ex0_6, ex0_7, ex0_8, ex0_9, ex0_11, ex1, ex2, ex3, ex4, ex6, ex8, ex9, ex10, ex12, ex13, ex14, ex15, ex16, ex18, es0, es1, es4, es6, es7, es8, es11, es12, es2, em, er]; exact qzR_qe h))
    (by have q := qzR_qb h; simp only [es8]; exact q)
    (fun i h1 h2 => by rw [ex16]; obtain ⟨j, q1, q2, q3⟩ := qzR_qs h i h1 h2; exact ⟨j, q1, q2, by rw [hg0 j (by omega), if_neg (fun e1 => by rw [e1, hst] at q3; exact absurd q3 (by decide))]; exact q3⟩)
    (by first | exact qzR_qi h | (simp only [ex0_6, ex0_7, ex0_8, ex0_9, ex0_11, ex1, ex2, ex3, ex4, ex6, ex8, ex9, ex10, ex12, ex13, ex14, ex15, ex16, ex18, es0, es1, es4, es6, es7, es8, es11, es12, es2, em, er]; exact qzR_qi h))
    (fun j hj q => by rw [hg0 j (by omega)] at q; by_cases e1 : j = j0; (rw [if_pos e1] at q; exact absurd q (by decide)); (rw [if_neg e1] at q; rw [ex16]; exact qzR_qc h j hj q))
    (fun c hc => by
      rcases qzR_oc h c hc with ⟨q1, q2⟩ | ⟨k, q1, q2, q3, q4⟩
      · exact Or.inl ⟨h20c c hc q1, fun k hk q => by rw [ek0 k (by omega)]; exact q2 k hk (ho k hk q).2⟩
      · by_cases q5 : qz_mb y k (nI j0) ∧ y (16 + 8 * k + 3) = 3
        · refine Or.inl ⟨h20a c k hc q1 q2 q5, fun k2 hk2 q => ?_⟩
          obtain ⟨u1, u2⟩ := ho k2 hk2 q
          rw [ek0 k2 (by omega)]
          intro u3
          have u4 := qzR_ou h k2 k hk2 q1 (u3.trans q3.symm) u2 q4
          rw [u4] at u1
          exact u1 q5
        · exact Or.inr ⟨k, q1, (h20b c k hc q1 q2 q5).trans q2, (ek0 k (by omega)).trans q3, by rw [h3 k q1, if_neg q5]; exact q4⟩)
    (fun k k2 h1 h2 q1 q2 q3 => by rw [ek0 k (by omega), ek0 k2 (by omega)] at q1; exact qzR_ou h k k2 h1 h2 q1 (ho k h1 q2).2 (ho k2 h2 q3).2)
set_option maxHeartbeats 4000000 in
theorem qzo_crash (h : qz_R x y n p f e t b) (hx : ∀ i : Nat, i < 21 → i ≠ 0 → i ≠ 5 → i ≠ 11 → i ≠ 15 → i ≠ 19 → i ≠ 20 → x2 i = x i) (hx0 : ∀ s : Nat, s ≠ 8 → s ≠ 10 → x2 0 s = x 0 s) (hx15 : ∀ s : Nat, s ≠ 1 → x2 15 s = x 15 s) (hs : ∀ a : Nat, a < 16 → a ≠ 8 → a ≠ 9 → a ≠ 11 → y2 a = y a) (hk : ∀ k w : Nat, k < 150 → w < 8 → w ≠ 3 → y2 (16 + 8 * k + w) = y (16 + 8 * k + w)) (hg : ∀ j w : Nat, j < 150 → w < 4 → w ≠ 0 → y2 (1216 + 4 * j + w) = y (1216 + 4 * j + w)) (hb : b ≠ 1) (h08 : x2 0 8 = -5) (h82 : y2 8 = -5) (h010 : x2 0 10 = -5) (h92 : y2 9 = -5) (h151 : x2 15 1 = nI e) (hT : x2 19 0 = y2 6 ∧ x2 19 1 = y2 10 ∧ x2 19 2 = y2 11 ∧ x2 19 3 = y2 12 ∧ x2 19 4 = y2 7 ∧ x2 19 5 = y2 13 ∧ x2 19 6 = y2 14 ∧ x2 19 7 = y2 15) (h5 : ∀ k : Nat, k < n → x2 5 k = if 4 ≤ y (16 + 8 * k + 3) then x 5 k else 5) (h3 : ∀ k : Nat, k < n → y2 (16 + 8 * k + 3) = if 4 ≤ y (16 + 8 * k + 3) then y (16 + 8 * k + 3) else 5) (h11 : ∀ j : Nat, j < p → x2 11 j = if 4 ≤ y (1216 + 4 * j + 0) then x 11 j else 5) (hg0 : ∀ j : Nat, j < p → y2 (1216 + 4 * j + 0) = if 4 ≤ y (1216 + 4 * j + 0) then y (1216 + 4 * j + 0) else 5) (h20 : ∀ c : Nat, c < 12 → x2 20 c = -5) : qz_R x2 y2 n p e e t 0 := by
  have ex0_6 : x2 0 6 = x 0 6 := hx0 6 (by decide) (by decide)
  have ex0_7 : x2 0 7 = x 0 7 := hx0 7 (by decide) (by decide)
  have ex0_9 : x2 0 9 = x 0 9 := hx0 9 (by decide) (by decide)
  have ex0_11 : x2 0 11 = x 0 11 := hx0 11 (by decide) (by decide)
  have ex1 : x2 1 = x 1 := hx 1 (by decide) (by decide) (by decide) (by decide) (by decide) (by decide) (by decide)
  have ex2 : x2 2 = x 2 := hx 2 (by decide) (by decide) (by decide) (by decide) (by decide) (by decide) (by decide)
  have ex3 : x2 3 = x 3 := hx 3 (by decide) (by decide) (by decide) (by decide) (by decide) (by decide) (by decide)
  have ex4 : x2 4 = x 4 := hx 4 (by decide) (by decide) (by decide) (by decide) (by decide) (by decide) (by decide)
  have ex6 : x2 6 = x 6 := hx 6 (by decide) (by decide) (by decide) (by decide) (by decide) (by decide) (by decide)
  have ex7 : x2 7 = x 7 := hx 7 (by decide) (by decide) (by decide) (by decide) (by decide) (by decide) (by decide)
  have ex8 : x2 8 = x 8 := hx 8 (by decide) (by decide) (by decide) (by decide) (by decide) (by decide) (by decide)
  have ex9 : x2 9 = x 9 := hx 9 (by decide) (by decide) (by decide) (by decide) (by decide) (by decide) (by decide)
  have ex10 : x2 10 = x 10 := hx 10 (by decide) (by decide) (by decide) (by decide) (by decide) (by decide) (by decide)
  have ex12 : x2 12 = x 12 := hx 12 (by decide) (by decide) (by decide) (by decide) (by decide) (by decide) (by decide)
  have ex13 : x2 13 = x 13 := hx 13 (by decide) (by decide) (by decide) (by decide) (by decide) (by decide) (by decide)
  have ex14 : x2 14 = x 14 := hx 14 (by decide) (by decide) (by decide) (by decide) (by decide) (by decide) (by decide)
  have ex15_2 : x2 15 2 = x 15 2 := hx15 2 (by decide)
  have ex16 : x2 16 = x 16 := hx 16 (by decide) (by decide) (by decide) (by decide) (by decide) (by decide) (by decide)
  have ex18 : x2 18 = x 18 := hx 18 (by decide) (by decide) (by decide) (by decide) (by decide) (by decide) (by decide)
  have es0 : y2 0 = y 0 := hs 0 (by decide) (by decide) (by decide) (by decide)
  have es1 : y2 1 = y 1 := hs 1 (by decide) (by decide) (by decide) (by decide)
  have es4 : y2 4 = y 4 := hs 4 (by decide) (by decide) (by decide) (by decide)
  have es6 : y2 6 = y 6 := hs 6 (by decide) (by decide) (by decide) (by decide)
  have es7 : y2 7 = y 7 := hs 7 (by decide) (by decide) (by decide) (by decide)
  have es10 : y2 10 = y 10 := hs 10 (by decide) (by decide) (by decide) (by decide)
  have es12 : y2 12 = y 12 := hs 12 (by decide) (by decide) (by decide) (by decide)
  have es13 : y2 13 = y 13 := hs 13 (by decide) (by decide) (by decide) (by decide)
  have es14 : y2 14 = y 14 := hs 14 (by decide) (by decide) (by decide) (by decide)
  have es15 : y2 15 = y 15 := hs 15 (by decide) (by decide) (by decide) (by decide)
  have es2 : y2 2 = y 2 := hs 2 (by decide) (by decide) (by decide) (by decide)
  have esS : ∀ i : Nat, i < 4 → y2 (2 + i) = y (2 + i) := fun i hi => hs (2 + i) (by omega) (by omega) (by omega) (by omega)
  have ek0 : ∀ k : Nat, k < 150 → y2 (16 + 8 * k + 0) = y (16 + 8 * k + 0) := fun k q => hk k 0 q (by decide) (by decide)
  have ek1 : ∀ k : Nat, k < 150 → y2 (16 + 8 * k + 1) = y (16 + 8 * k + 1) := fun k q => hk k 1 q (by decide) (by decide)
  have ek2 : ∀ k : Nat, k < 150 → y2 (16 + 8 * k + 2) = y (16 + 8 * k + 2) := fun k q => hk k 2 q (by decide) (by decide)
  have ek4 : ∀ k : Nat, k < 150 → y2 (16 + 8 * k + 4) = y (16 + 8 * k + 4) := fun k q => hk k 4 q (by decide) (by decide)
  have ek5 : ∀ k : Nat, k < 150 → y2 (16 + 8 * k + 5) = y (16 + 8 * k + 5) := fun k q => hk k 5 q (by decide) (by decide)
  have ek6 : ∀ k : Nat, k < 150 → y2 (16 + 8 * k + 6) = y (16 + 8 * k + 6) := fun k q => hk k 6 q (by decide) (by decide)
  have ek7 : ∀ k : Nat, k < 150 → y2 (16 + 8 * k + 7) = y (16 + 8 * k + 7) := fun k q => hk k 7 q (by decide) (by decide)
  have eg1 : ∀ j : Nat, j < 150 → y2 (1216 + 4 * j + 1) = y (1216 + 4 * j + 1) := fun j q => hg j 1 q (by decide) (by decide)
  have eg2 : ∀ j : Nat, j < 150 → y2 (1216 + 4 * j + 2) = y (1216 + 4 * j + 2) := fun j q => hg j 2 q (by decide) (by decide)
  have eg3 : ∀ j : Nat, j < 150 → y2 (1216 + 4 * j + 3) = y (1216 + 4 * j + 3) := fun j q => hg j 3 q (by decide) (by decide)
  have hn0 : n ≤ 150 := qzR_nn h
  have hp0 : p ≤ 150 := (qzR_pn h).1
  have em : ∀ g : Int32, qz_mem y2 n g = qz_mem y n g := fun g => qz_sum_c n (fun k hk => by simp only [qz_mb, ek6 k (by omega), ek7 k (by omega)])
  have er : ∀ g : Int32, qz_rec y2 n g = qz_rec y n g := fun g => qz_sum_c n (fun k hk => by simp only [qz_mb, ek1 k (by omega), ek6 k (by omega), ek7 k (by omega)])
  have ho : ∀ k : Nat, k < n → ¬ ¬ 4 ≤ y2 (16 + 8 * k + 3) := fun k hk q => by
    rw [h3 k hk] at q
    by_cases q2 : 4 ≤ y (16 + 8 * k + 3)
    · rw [if_pos q2] at q; exact q q2
    · rw [if_neg q2] at q; exact absurd (by decide) q
  have hs4 : ∀ j : Nat, j < p → 4 ≤ y2 (1216 + 4 * j + 0) := fun j hj => by
    rw [hg0 j hj]
    split
    · assumption
    · decide
  have hsn : ∀ j s : Nat, j < p → s < 4 → y2 (1216 + 4 * j + 0) ≠ nI s := fun j s hj h4 q => by
    have q2 := hs4 j hj
    rw [q, show (4 : Int32) = nI 4 from rfl] at q2
    exact nI_ge h4 (by omega) q2
  exact qz_R_mk
    (by first | exact qzR_tx h | (simp only [ex0_6, ex0_7, ex0_9, ex0_11, ex1, ex2, ex3, ex4, ex6, ex7, ex8, ex9, ex10, ex12, ex13, ex14, ex15_2, ex16, ex18, es0, es1, es4, es6, es7, es10, es12, es13, es14, es15, es2, em, er]; exact qzR_tx h))
    (by first | exact qzR_ty h | (simp only [ex0_6, ex0_7, ex0_9, ex0_11, ex1, ex2, ex3, ex4, ex6, ex7, ex8, ex9, ex10, ex12, ex13, ex14, ex15_2, ex16, ex18, es0, es1, es4, es6, es7, es10, es12, es13, es14, es15, es2, em, er]; exact qzR_ty h))
    (by first | exact qzR_wx h | (simp only [ex0_6, ex0_7, ex0_9, ex0_11, ex1, ex2, ex3, ex4, ex6, ex7, ex8, ex9, ex10, ex12, ex13, ex14, ex15_2, ex16, ex18, es0, es1, es4, es6, es7, es10, es12, es13, es14, es15, es2, em, er]; exact qzR_wx h))
    (by first | exact qzR_wr h | (simp only [ex0_6, ex0_7, ex0_9, ex0_11, ex1, ex2, ex3, ex4, ex6, ex7, ex8, ex9, ex10, ex12, ex13, ex14, ex15_2, ex16, ex18, es0, es1, es4, es6, es7, es10, es12, es13, es14, es15, es2, em, er]; exact qzR_wr h))
    (fun i hi => by rw [ex18, esS i hi]; exact qzR_sx h i hi)
    (by first | exact qzR_s0 h | (simp only [ex0_6, ex0_7, ex0_9, ex0_11, ex1, ex2, ex3, ex4, ex6, ex7, ex8, ex9, ex10, ex12, ex13, ex14, ex15_2, ex16, ex18, es0, es1, es4, es6, es7, es10, es12, es13, es14, es15, es2, em, er]; exact qzR_s0 h))
    (by first | exact qzR_s2 h | (simp only [ex0_6, ex0_7, ex0_9, ex0_11, ex1, ex2, ex3, ex4, ex6, ex7, ex8, ex9, ex10, ex12, ex13, ex14, ex15_2, ex16, ex18, es0, es1, es4, es6, es7, es10, es12, es13, es14, es15, es2, em, er]; exact qzR_s2 h))
    (by first | exact qzR_nx h | (simp only [ex0_6, ex0_7, ex0_9, ex0_11, ex1, ex2, ex3, ex4, ex6, ex7, ex8, ex9, ex10, ex12, ex13, ex14, ex15_2, ex16, ex18, es0, es1, es4, es6, es7, es10, es12, es13, es14, es15, es2, em, er]; exact qzR_nx h))
    (by first | exact qzR_ny h | (simp only [ex0_6, ex0_7, ex0_9, ex0_11, ex1, ex2, ex3, ex4, ex6, ex7, ex8, ex9, ex10, ex12, ex13, ex14, ex15_2, ex16, ex18, es0, es1, es4, es6, es7, es10, es12, es13, es14, es15, es2, em, er]; exact qzR_ny h))
    (by first | exact qzR_nn h | (simp only [ex0_6, ex0_7, ex0_9, ex0_11, ex1, ex2, ex3, ex4, ex6, ex7, ex8, ex9, ex10, ex12, ex13, ex14, ex15_2, ex16, ex18, es0, es1, es4, es6, es7, es10, es12, es13, es14, es15, es2, em, er]; exact qzR_nn h))
    (by first | exact qzR_px h | (simp only [ex0_6, ex0_7, ex0_9, ex0_11, ex1, ex2, ex3, ex4, ex6, ex7, ex8, ex9, ex10, ex12, ex13, ex14, ex15_2, ex16, ex18, es0, es1, es4, es6, es7, es10, es12, es13, es14, es15, es2, em, er]; exact qzR_px h))
    (by first | exact qzR_py h | (simp only [ex0_6, ex0_7, ex0_9, ex0_11, ex1, ex2, ex3, ex4, ex6, ex7, ex8, ex9, ex10, ex12, ex13, ex14, ex15_2, ex16, ex18, es0, es1, es4, es6, es7, es10, es12, es13, es14, es15, es2, em, er]; exact qzR_py h))
    ⟨hp0, (qzR_pn h).2.1, fun _ => (qzR_pn h).2.2 hb⟩
    (h08.trans h82.symm)
    (h010.trans h92.symm)
    hT.1
    hT.2.1
    hT.2.2.1
    hT.2.2.2.1
    hT.2.2.2.2.1
    hT.2.2.2.2.2.1
    hT.2.2.2.2.2.2.1
    hT.2.2.2.2.2.2.2
    (fun k hk => by simp only [ex0_6, ex0_7, ex0_9, ex0_11, ex1, ex2, ex3, ex4, ex6, ex7, ex8, ex9, ex10, ex12, ex13, ex14, ex15_2, ex16, ex18, es0, es1, es4, es6, es7, es10, es12, es13, es14, es15, es2, em, er, ek0 k (show k < 150 by omega), ek1 k (show k < 150 by omega), ek2 k (show k < 150 by omega), ek4 k (show k < 150 by omega), ek5 k (show k < 150 by omega), ek6 k (show k < 150 by omega), ek7 k (show k < 150 by omega)]; exact qzR_c2 h k hk)
    (fun k hk => by simp only [ex0_6, ex0_7, ex0_9, ex0_11, ex1, ex2, ex3, ex4, ex6, ex7, ex8, ex9, ex10, ex12, ex13, ex14, ex15_2, ex16, ex18, es0, es1, es4, es6, es7, es10, es12, es13, es14, es15, es2, em, er, ek0 k (show k < 150 by omega), ek1 k (show k < 150 by omega), ek2 k (show k < 150 by omega), ek4 k (show k < 150 by omega), ek5 k (show k < 150 by omega), ek6 k (show k < 150 by omega), ek7 k (show k < 150 by omega)]; exact qzR_c3 h k hk)
    (fun k hk => by simp only [ex0_6, ex0_7, ex0_9, ex0_11, ex1, ex2, ex3, ex4, ex6, ex7, ex8, ex9, ex10, ex12, ex13, ex14, ex15_2, ex16, ex18, es0, es1, es4, es6, es7, es10, es12, es13, es14, es15, es2, em, er, ek0 k (show k < 150 by omega), ek1 k (show k < 150 by omega), ek2 k (show k < 150 by omega), ek4 k (show k < 150 by omega), ek5 k (show k < 150 by omega), ek6 k (show k < 150 by omega), ek7 k (show k < 150 by omega)]; exact qzR_c4 h k hk)
    (fun k hk => by rw [h5 k hk, h3 k hk]; split; exact qzR_c5 h k hk; rfl)
    (fun k hk => by simp only [ex0_6, ex0_7, ex0_9, ex0_11, ex1, ex2, ex3, ex4, ex6, ex7, ex8, ex9, ex10, ex12, ex13, ex14, ex15_2, ex16, ex18, es0, es1, es4, es6, es7, es10, es12, es13, es14, es15, es2, em, er, ek0 k (show k < 150 by omega), ek1 k (show k < 150 by omega), ek2 k (show k < 150 by omega), ek4 k (show k < 150 by omega), ek5 k (show k < 150 by omega), ek6 k (show k < 150 by omega), ek7 k (show k < 150 by omega)]; exact qzR_c6 h k hk)
    (fun k hk => by simp only [ex0_6, ex0_7, ex0_9, ex0_11, ex1, ex2, ex3, ex4, ex6, ex7, ex8, ex9, ex10, ex12, ex13, ex14, ex15_2, ex16, ex18, es0, es1, es4, es6, es7, es10, es12, es13, es14, es15, es2, em, er, ek0 k (show k < 150 by omega), ek1 k (show k < 150 by omega), ek2 k (show k < 150 by omega), ek4 k (show k < 150 by omega), ek5 k (show k < 150 by omega), ek6 k (show k < 150 by omega), ek7 k (show k < 150 by omega)]; exact qzR_c7 h k hk)
    (fun k hk => by simp only [ex0_6, ex0_7, ex0_9, ex0_11, ex1, ex2, ex3, ex4, ex6, ex7, ex8, ex9, ex10, ex12, ex13, ex14, ex15_2, ex16, ex18, es0, es1, es4, es6, es7, es10, es12, es13, es14, es15, es2, em, er, ek0 k (show k < 150 by omega), ek1 k (show k < 150 by omega), ek2 k (show k < 150 by omega), ek4 k (show k < 150 by omega), ek5 k (show k < 150 by omega), ek6 k (show k < 150 by omega), ek7 k (show k < 150 by omega)]; exact qzR_c8 h k hk)
    (fun k hk => by simp only [ex0_6, ex0_7, ex0_9, ex0_11, ex1, ex2, ex3, ex4, ex6, ex7, ex8, ex9, ex10, ex12, ex13, ex14, ex15_2, ex16, ex18, es0, es1, es4, es6, es7, es10, es12, es13, es14, es15, es2, em, er, ek0 k (show k < 150 by omega), ek1 k (show k < 150 by omega), ek2 k (show k < 150 by omega), ek4 k (show k < 150 by omega), ek5 k (show k < 150 by omega), ek6 k (show k < 150 by omega), ek7 k (show k < 150 by omega)]; exact qzR_c9 h k hk)
    (fun j hj => by rw [h11 j hj, hg0 j hj]; split; exact qzR_g11 h j hj; rfl)
    (fun j hj => by simp only [ex0_6, ex0_7, ex0_9, ex0_11, ex1, ex2, ex3, ex4, ex6, ex7, ex8, ex9, ex10, ex12, ex13, ex14, ex15_2, ex16, ex18, es0, es1, es4, es6, es7, es10, es12, es13, es14, es15, es2, em, er, eg1 j (show j < 150 by omega), eg2 j (show j < 150 by omega), eg3 j (show j < 150 by omega)]; exact qzR_g14 h j hj)
    (fun j hj => by simp only [ex0_6, ex0_7, ex0_9, ex0_11, ex1, ex2, ex3, ex4, ex6, ex7, ex8, ex9, ex10, ex12, ex13, ex14, ex15_2, ex16, ex18, es0, es1, es4, es6, es7, es10, es12, es13, es14, es15, es2, em, er, eg1 j (show j < 150 by omega), eg2 j (show j < 150 by omega), eg3 j (show j < 150 by omega)]; exact qzR_g12 h j hj)
    (fun j hj => by simp only [ex0_6, ex0_7, ex0_9, ex0_11, ex1, ex2, ex3, ex4, ex6, ex7, ex8, ex9, ex10, ex12, ex13, ex14, ex15_2, ex16, ex18, es0, es1, es4, es6, es7, es10, es12, es13, es14, es15, es2, em, er, eg1 j (show j < 150 by omega), eg2 j (show j < 150 by omega), eg3 j (show j < 150 by omega)]; exact qzR_g13 h j hj)
    (fun j h1 h2 => by rw [eg2 j h2]; exact qzR_g0 h j h1 h2)
    (by first | exact qzR_b4 h | (simp only [ex0_6, ex0_7, ex0_9, ex0_11, ex1, ex2, ex3, ex4, ex6, ex7, ex8, ex9, ex10, ex12, ex13, ex14, ex15_2, ex16, ex18, es0, es1, es4, es6, es7, es10, es12, es13, es14, es15, es2, em, er]; exact qzR_b4 h))
    (by first | exact qzR_b9 h | (simp only [ex0_6, ex0_7, ex0_9, ex0_11, ex1, ex2, ex3, ex4, ex6, ex7, ex8, ex9, ex10, ex12, ex13, ex14, ex15_2, ex16, ex18, es0, es1, es4, es6, es7, es10, es12, es13, es14, es15, es2, em, er]; exact qzR_b9 h))
    (fun k hk => by simp only [ex0_6, ex0_7, ex0_9, ex0_11, ex1, ex2, ex3, ex4, ex6, ex7, ex8, ex9, ex10, ex12, ex13, ex14, ex15_2, ex16, ex18, es0, es1, es4, es6, es7, es10, es12, es13, es14, es15, es2, em, er, ek0 k (show k < 150 by omega), ek1 k (show k < 150 by omega), ek2 k (show k < 150 by omega), ek4 k (show k < 150 by omega), ek5 k (show k < 150 by omega), ek6 k (show k < 150 by omega), ek7 k (show k < 150 by omega)]; exact qzR_kc h k hk)
    (fun k hk => by simp only [ex0_6, ex0_7, ex0_9, ex0_11, ex1, ex2, ex3, ex4, ex6, ex7, ex8, ex9, ex10, ex12, ex13, ex14, ex15_2, ex16, ex18, es0, es1, es4, es6, es7, es10, es12, es13, es14, es15, es2, em, er, ek0 k (show k < 150 by omega), ek1 k (show k < 150 by omega), ek2 k (show k < 150 by omega), ek4 k (show k < 150 by omega), ek5 k (show k < 150 by omega), ek6 k (show k < 150 by omega), ek7 k (show k < 150 by omega)]; exact qzR_kr h k hk)
    (fun k hk => by rw [h3 k hk]; split; exact qzR_kw h k hk; exact ⟨5, by omega, by omega, rfl⟩)
    (fun k hk => by simp only [ex0_6, ex0_7, ex0_9, ex0_11, ex1, ex2, ex3, ex4, ex6, ex7, ex8, ex9, ex10, ex12, ex13, ex14, ex15_2, ex16, ex18, es0, es1, es4, es6, es7, es10, es12, es13, es14, es15, es2, em, er, ek0 k (show k < 150 by omega), ek1 k (show k < 150 by omega), ek2 k (show k < 150 by omega), ek4 k (show k < 150 by omega), ek5 k (show k < 150 by omega), ek6 k (show k < 150 by omega), ek7 k (show k < 150 by omega)]; exact qzR_kg h k hk)
    (fun k hk q => absurd q (ho k hk))
    (fun j hj => by rw [hg0 j hj]; split; exact qzR_gs h j hj; exact ⟨5, by omega, by omega, rfl⟩)
    (Or.inl h82)
    (fun j hj q => absurd q (hsn j 1 hj (by omega)))
    (fun k hk q1 _ => by rw [ek6 k (by omega), h82] at q1; obtain ⟨j, hj, e1⟩ := qzR_kg h k hk; rw [e1] at q1; exact absurd q1 (qz_n5 (by omega)))
    (fun _ q => absurd h82 q)
    (Or.inl h92)
    (fun j hj q => absurd q (hsn j 3 hj (by omega)))
    h151
    (by first | exact qzR_qe h | (simp only [ex0_6, ex0_7, ex0_9, ex0_11, ex1, ex2, ex3, ex4, ex6, ex7, ex8, ex9, ex10, ex12, ex13, ex14, ex15_2, ex16, ex18, es0, es1, es4, es6, es7, es10, es12, es13, es14, es15, es2, em, er]; exact qzR_qe h))
    ⟨Nat.le_refl _, (qzR_qb h).2.1, fun q => absurd h82 q⟩
    (fun i h1 h2 => absurd h2 (by omega))
    (fun i i2 j j2 h1 h2 h3 => absurd h3 (by omega))
    (fun j hj q => absurd q (hsn j 2 hj (by omega)))
    (fun c hc => Or.inl ⟨h20 c hc, fun k hk q => absurd q (ho k hk)⟩)
    (fun k k2 h1 h2 q1 q2 => absurd q2 (ho k h1))
end QO3
