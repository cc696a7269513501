-- the law's loop and start: written by wip/gen/lgen.py
theorem lw_cmpt {vi : Int32} {j L : Nat} (hL : L ≤ 2048) (hj : 4 * j ≤ L) (hvi : vi = nI (4 * j)) (h : ¬ nI L - 4 < vi) : 4 * j + 4 ≤ L := by
  have h2 : ¬ (nI L - nI 4) < nI (4 * j) := by rw [← hvi]; exact h
  rw [Int32.lt_iff_toInt_lt, pk_sub_toInt (by omega) (by omega), nI_toInt (by omega)] at h2
  omega
set_option maxHeartbeats 4000000 in
set_option maxRecDepth 100000 in
/-- THE LAW'S LOOP -/
theorem law_loop (l : Launch) {p : Program} {e : Env} {s : State} {m : MethodId} {below : List Frame} {meth : Method} {c : Code} {b L : Nat} {xs : Nat → Int32} {D : va_G} {a a2 : Nat → Nat} {cy : Nat → ClassId} (hL : L ≤ 2048) (K : lw_K p s m meth c b L xs D a a2 cy) {N : Nat} {Inv : Nat → XT → XT → Prop} (hst : m_Step N Inv) : ∀ (n j : Nat), 4 * j ≤ L → L + 4 ≤ 4 * j + 4 * n → ∀ (vi : Int32) (hvi : vi = nI (4 * j)) (X Y : XT) (hI : Inv j X Y) (d0 : Drawn) (hd0 : s.drawn.sameBut d0 lw_cs) (H : Heap) (locs : List Loc) (ls : Array Slot) (hPX : va_P D vwCl (m_WC a cy X) H) (hPY : va_P D vwCl (m_WM a2 cy Y) H) (hS : va_S (lw_A0 s) s.heap H locs) (hl : lv_has ls 8 [(0, .ref b), (1, .ref (a 126)), (2, .ref (a2 0)), (3, .int vi)]), W p l e room_1 (s.setDrawn d0) m #[Value.ref b] below meth c H locs 600000 7302250 (lw_Z below #[Value.ref b] s) (F0 m 18 ls []) := by
  have hx := K.1.1
  have hb := K.1.2.1
  have hX := K.1.2.2.2.2.2.2.1
  have hbl := K.1.2.2.2.2.2.2.2.1
  have hbA : ¬ lw_A0 s b := Nat.not_le.mpr hbl
  have hr := K.1.2.2.1
  have hlocks := K.1.2.2.2.2.2.2.2.2.1
  intro n
  induction n with
  | zero =>
    intro j h1 h2
    omega
  | succ n ih =>
    intro j hj0 hjn vi hvi X Y hI d0 hd0 H locs ls hPX hPY hS hl
    refine lv_iload_n hx hb dL_law_18 rfl (lv_at hl 3 rfl) ?_
    refine lv_aload_n hx hb dL_law_19 rfl (lv_at hl 0 rfl) ?_
    refine va_slen hx hb (lw_Xd hX) hbl hbA hS dL_law_20 ?_
    refine lv_iconst (v := 4) hx hb dL_law_21 (by decide) ?_
    refine lv_isub hx hb dL_law_22 ?_
    refine lv_icmp_gt (tgt := 742) hx hb dL_law_23 (by decide) (fun c_1 => ?_) (fun c_1 => ?_)
    · refine lv_iconst (v := 1) hx hb dL_law_742 (by decide) ?_
      refine va_forget (fun q hq => hS.2.2 q hq) ?_
      exact lw_ret hd0 hx hb hr hlocks dL_law_743
    · have hj : 4 * j + 4 ≤ L := lw_cmpt hL hj0 hvi c_1
      have kback : ∀ (X1 Y1 : XT) (d1 : Drawn) (H1 : Heap) (locs1 : List Loc) (ls1 : Array Slot), s.drawn.sameBut d1 lw_cs → Inv (j + 1) X1 Y1 → va_P D vwCl (m_WC a cy X1) H1 → va_P D vwCl (m_WM a2 cy Y1) H1 → va_S (lw_A0 s) s.heap H1 locs1 → lv_has ls1 8 [(0, .ref b), (1, .ref (a 126)), (2, .ref (a2 0)), (3, .int vi)] → W p l e room_1 (s.setDrawn d1) m #[Value.ref b] below meth c H1 locs1 600000 7302250 (lw_Z below #[Value.ref b] s) (F0 m 736 ls1 []) := by
        intro X1 Y1 d1 H1 locs1 ls1 hd1 hI1 hPX1 hPY1 hS1 hl1
        obtain ⟨v2, hv2⟩ : ∃ y : Int32, y = vi + 4 := ⟨_, rfl⟩
        refine lv_iinc (v := v2) (lv' := [(3, .int v2), (0, .ref b), (1, .ref (a 126)), (2, .ref (a2 0))]) hx hb dL_law_736 hl1 (k := 3) rfl (by rw [hv2]; rfl) (by decide) rfl (fun ls hl => ?_)
        refine lv_goto (tgt := 18) hx hb dL_law_739 (by decide) ?_
        exact ih (j + 1) (by omega) (by omega) v2 (by rw [hv2, hvi, show (4 : Int32) = nI 4 from rfl, nI_add]; rfl) X1 Y1 hI1 d1 hd1 H1 locs1 ls hPX1 hPY1 hS1 (lv_sub hl [1, 2, 3, 0] rfl)
      refine lv_aload_n hx hb dL_law_26 rfl (lv_at hl 0 rfl) ?_
      refine lv_iload_n hx hb dL_law_27 rfl (lv_at hl 3 rfl) ?_
      refine va_sld hx hb (lw_Xd hX) hbl hbA hS (lw_ix0 hL hj hvi) dL_law_28 ?_
      refine lv_bipush (v := 31) hx hb dL_law_29 (by decide) ?_
      refine lv_iand hx hb dL_law_31 ?_
      refine lv_topi (fun z _ => ?_)
      by_cases c_10 : z = 0
      · refine lv_tableIn (tgt := 144) hx hb dL_law_32 (by rw [c_10]; decide) (by rw [c_10]; decide) (by rw [c_10]; rfl) (by decide) ?_
        exact law_submit l hL K hst j hj vi hvi X Y hI d0 hd0 H locs ls hPX hPY hS hl kback
      by_cases c_11 : z = 1
      · refine lv_tableIn (tgt := 203) hx hb dL_law_32 (by rw [c_11]; decide) (by rw [c_11]; decide) (by rw [c_11]; rfl) (by decide) ?_
        exact law_fail l hL K hst j hj vi hvi X Y hI d0 hd0 H locs ls hPX hPY hS hl kback
      by_cases c_12 : z = 2
      · refine lv_tableIn (tgt := 226) hx hb dL_law_32 (by rw [c_12]; decide) (by rw [c_12]; decide) (by rw [c_12]; rfl) (by decide) ?_
        exact law_withdraw l hL K hst j hj vi hvi X Y hI d0 hd0 H locs ls hPX hPY hS hl kback
      by_cases c_13 : z = 3
      · refine lv_tableIn (tgt := 249) hx hb dL_law_32 (by rw [c_13]; decide) (by rw [c_13]; decide) (by rw [c_13]; rfl) (by decide) ?_
        exact law_crash l hL K hst j hj vi hvi X Y hI d0 hd0 H locs ls hPX hPY hS hl kback
      by_cases c_14 : z = 4
      · refine lv_tableIn (tgt := 262) hx hb dL_law_32 (by rw [c_14]; decide) (by rw [c_14]; decide) (by rw [c_14]; rfl) (by decide) ?_
        exact law_tick l hL K hst j hj vi hvi X Y hI d0 hd0 H locs ls hPX hPY hS hl kback
      by_cases c_15 : z = 5
      · refine lv_tableIn (tgt := 285) hx hb dL_law_32 (by rw [c_15]; decide) (by rw [c_15]; decide) (by rw [c_15]; rfl) (by decide) ?_
        exact law_set l hL K hst j hj vi hvi X Y hI d0 hd0 H locs ls hPX hPY hS hl kback
      by_cases c_16 : z = 6
      · refine lv_tableIn (tgt := 318) hx hb dL_law_32 (by rw [c_16]; decide) (by rw [c_16]; decide) (by rw [c_16]; rfl) (by decide) ?_
        exact law_append l hL K hst j hj vi hvi X Y hI d0 hd0 H locs ls hPX hPY hS hl kback
      by_cases c_17 : z = 7
      · refine lv_tableIn (tgt := 341) hx hb dL_law_32 (by rw [c_17]; decide) (by rw [c_17]; decide) (by rw [c_17]; rfl) (by decide) ?_
        exact law_clearText l hL K hst j hj vi hvi X Y hI d0 hd0 H locs ls hPX hPY hS hl kback
      by_cases c_18 : z = 8
      · refine lv_tableIn (tgt := 354) hx hb dL_law_32 (by rw [c_18]; decide) (by rw [c_18]; decide) (by rw [c_18]; rfl) (by decide) ?_
        exact law_fault l hL K hst j hj vi hvi X Y hI d0 hd0 H locs ls hPX hPY hS hl kback
      by_cases c_19 : z = 9
      · refine lv_tableIn (tgt := 367) hx hb dL_law_32 (by rw [c_19]; decide) (by rw [c_19]; decide) (by rw [c_19]; rfl) (by decide) ?_
        exact law_run l hL K hst j hj vi hvi X Y hI d0 hd0 H locs ls hPX hPY hS hl kback
      by_cases c_20 : z = 10
      · refine lv_tableIn (tgt := 380) hx hb dL_law_32 (by rw [c_20]; decide) (by rw [c_20]; decide) (by rw [c_20]; rfl) (by decide) ?_
        exact law_undo l hL K hst j hj vi hvi X Y hI d0 hd0 H locs ls hPX hPY hS hl kback
      by_cases c_21 : z = 11
      · refine lv_tableIn (tgt := 393) hx hb dL_law_32 (by rw [c_21]; decide) (by rw [c_21]; decide) (by rw [c_21]; rfl) (by decide) ?_
        exact law_save l hL K hst j hj vi hvi X Y hI d0 hd0 H locs ls hPX hPY hS hl kback
      by_cases c_22 : z = 12
      · refine lv_tableIn (tgt := 406) hx hb dL_law_32 (by rw [c_22]; decide) (by rw [c_22]; decide) (by rw [c_22]; rfl) (by decide) ?_
        exact law_restore l hL K hst j hj vi hvi X Y hI d0 hd0 H locs ls hPX hPY hS hl kback
      by_cases c_23 : z = 13
      · refine lv_tableIn (tgt := 419) hx hb dL_law_32 (by rw [c_23]; decide) (by rw [c_23]; decide) (by rw [c_23]; rfl) (by decide) ?_
        exact law_commit l hL K hst j hj vi hvi X Y hI d0 hd0 H locs ls hPX hPY hS hl kback
      by_cases c_24 : z = 14
      · refine lv_tableIn (tgt := 452) hx hb dL_law_32 (by rw [c_24]; decide) (by rw [c_24]; decide) (by rw [c_24]; rfl) (by decide) ?_
        exact law_group l hL K hst j hj vi hvi X Y hI d0 hd0 H locs ls hPX hPY hS hl kback
      by_cases c_25 : z = 15
      · refine lv_tableIn (tgt := 485) hx hb dL_law_32 (by rw [c_25]; decide) (by rw [c_25]; decide) (by rw [c_25]; rfl) (by decide) ?_
        exact law_member l hL K hst j hj vi hvi X Y hI d0 hd0 H locs ls hPX hPY hS hl kback
      by_cases c_26 : z = 16
      · refine lv_tableIn (tgt := 518) hx hb dL_law_32 (by rw [c_26]; decide) (by rw [c_26]; decide) (by rw [c_26]; rfl) (by decide) ?_
        exact law_open l hL K hst j hj vi hvi X Y hI d0 hd0 H locs ls hPX hPY hS hl kback
      by_cases c_27 : z = 17
      · refine lv_tableIn (tgt := 541) hx hb dL_law_32 (by rw [c_27]; decide) (by rw [c_27]; decide) (by rw [c_27]; rfl) (by decide) ?_
        exact law_queued l hL K hst j hj vi hvi X Y hI d0 hd0 H locs ls hPX hPY hS hl kback
      by_cases c_28 : z = 18
      · refine lv_tableIn (tgt := 564) hx hb dL_law_32 (by rw [c_28]; decide) (by rw [c_28]; decide) (by rw [c_28]; rfl) (by decide) ?_
        exact law_count l hL K hst j hj vi hvi X Y hI d0 hd0 H locs ls hPX hPY hS hl kback
      by_cases c_29 : z = 19
      · refine lv_tableIn (tgt := 587) hx hb dL_law_32 (by rw [c_29]; decide) (by rw [c_29]; decide) (by rw [c_29]; rfl) (by decide) ?_
        exact law_total l hL K hst j hj vi hvi X Y hI d0 hd0 H locs ls hPX hPY hS hl kback
      by_cases c_30 : z = 20
      · refine lv_tableIn (tgt := 610) hx hb dL_law_32 (by rw [c_30]; decide) (by rw [c_30]; decide) (by rw [c_30]; rfl) (by decide) ?_
        exact law_answeredIn l hL K hst j hj vi hvi X Y hI d0 hd0 H locs ls hPX hPY hS hl kback
      by_cases c_31 : z = 21
      · refine lv_tableIn (tgt := 633) hx hb dL_law_32 (by rw [c_31]; decide) (by rw [c_31]; decide) (by rw [c_31]; rfl) (by decide) ?_
        exact law_ifSubmitted l hL K hst j hj vi hvi X Y hI d0 hd0 H locs ls hPX hPY hS hl kback
      by_cases c_32 : z = 22
      · refine lv_tableIn (tgt := 682) hx hb dL_law_32 (by rw [c_32]; decide) (by rw [c_32]; decide) (by rw [c_32]; rfl) (by decide) ?_
        exact law_idleIn l hL K hst j hj vi hvi X Y hI d0 hd0 H locs ls hPX hPY hS hl kback
      by_cases c_33 : z = 23
      · refine lv_tableIn (tgt := 695) hx hb dL_law_32 (by rw [c_33]; decide) (by rw [c_33]; decide) (by rw [c_33]; rfl) (by decide) ?_
        exact law_mean l hL K hst j hj vi hvi X Y hI d0 hd0 H locs ls hPX hPY hS hl kback
      have n_0 := lv_neT (a := 0) c_10 (by decide)
      have n_1 := lv_neT (a := 1) c_11 (by decide)
      have n_2 := lv_neT (a := 2) c_12 (by decide)
      have n_3 := lv_neT (a := 3) c_13 (by decide)
      have n_4 := lv_neT (a := 4) c_14 (by decide)
      have n_5 := lv_neT (a := 5) c_15 (by decide)
      have n_6 := lv_neT (a := 6) c_16 (by decide)
      have n_7 := lv_neT (a := 7) c_17 (by decide)
      have n_8 := lv_neT (a := 8) c_18 (by decide)
      have n_9 := lv_neT (a := 9) c_19 (by decide)
      have n_10 := lv_neT (a := 10) c_20 (by decide)
      have n_11 := lv_neT (a := 11) c_21 (by decide)
      have n_12 := lv_neT (a := 12) c_22 (by decide)
      have n_13 := lv_neT (a := 13) c_23 (by decide)
      have n_14 := lv_neT (a := 14) c_24 (by decide)
      have n_15 := lv_neT (a := 15) c_25 (by decide)
      have n_16 := lv_neT (a := 16) c_26 (by decide)
      have n_17 := lv_neT (a := 17) c_27 (by decide)
      have n_18 := lv_neT (a := 18) c_28 (by decide)
      have n_19 := lv_neT (a := 19) c_29 (by decide)
      have n_20 := lv_neT (a := 20) c_30 (by decide)
      have n_21 := lv_neT (a := 21) c_31 (by decide)
      have n_22 := lv_neT (a := 22) c_32 (by decide)
      have n_23 := lv_neT (a := 23) c_33 (by decide)
      refine lv_tableOut (tgt := 736) hx hb dL_law_32 (by omega) (by decide) ?_
      exact kback X Y d0 H locs ls hd0 (hst.2.2.2.2.2.2.2.2.2.2.2.2.2.2.2.2.2.2.2.2.2.2.2.2 j X Y (by omega) hI) hPX hPY hS hl
