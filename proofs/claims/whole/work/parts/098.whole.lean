-- the law's walk, from its start
theorem qz_Step {N : Nat} (hN : 100000 ≤ N) : m_Step N qz_Inv :=
  have h6 : 6000 ≤ N := by omega
  ⟨qz_st_submit h6, qz_st_fail h6, qz_st_withdraw h6, qz_st_crash h6, qz_st_tick h6, qz_st_set h6, qz_st_append, qz_st_clearText, qz_st_fault (by omega), qz_st_run h6, qz_st_undo h6, qz_st_save h6, qz_st_restore h6, qz_st_commit, qz_st_group h6, qz_st_member h6, qz_st_open h6, qz_st_queued h6, qz_st_count h6, qz_st_total, qz_st_answeredIn hN, qz_st_ifSubmitted hN, qz_st_idleIn hN, qz_st_mean, qz_st_skip⟩
theorem whole_start {p : Program} {e : Env} {s : State} {m : MethodId} {below : List Frame} {meth : Method} {c : Code} (l : Launch) (_hflags : l.flags = flags0) {b L : Nat} {xs : Nat → Int32} (hL : L ≤ 2048) (C0 : lw_At p s m meth c b L xs) : W p l e room_1 s m #[Value.ref b] below meth c s.heap [] 0 0 (lw_Z below #[Value.ref b] s) (entryFrame m ([Value.ref b] : List Value).toArray 8) :=
  start_of (qz_Step (Nat.le_refl 100000)) qz_Inv0 l hL C0
