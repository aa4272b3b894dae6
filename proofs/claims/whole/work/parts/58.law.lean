theorem law_ok : LawOK Inv :=
  ⟨ok_status, ok_node, ok_waits, ok_line, ok_strike, ok_delay, ok_close, ok_changes, ok_undo, ok_told, ok_run, ok_first, ok_last, ok_quickest, ok_fewest, ok_way, ok_out, ok_pairs, ok_pair, ok_reached, ok_isReached, ok_without, ok_weakest, ok_stand⟩
theorem whole_start {p : Program} {e : Env} {s : State} {m : MethodId} {below : List Frame} {meth : Method} {c : Code} (l : Launch) {b L : Nat} {xs : Nat → Int32} (hL : L ≤ 4096) (C0 : lw_At p s m meth c b L xs) : W p l e room_1 s m #[Value.ref b] below meth c s.heap [] 0 0 (lw_Z below #[Value.ref b] s) (entryFrame m ([Value.ref b] : List Value).toArray 4) :=
  law_start law_ok inv_ini l hL C0
