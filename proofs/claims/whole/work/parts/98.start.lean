/-! all calls answer alike -/
theorem all_ops (G : px_G) : OPS G Inv := ⟨fun ph h => by
    obtain ⟨t, mc, fd, sc, wl, rl, m, ⟨h0, -⟩, -⟩ := h
    exact ⟨_, h0⟩, fun a b c e => op_feed a b c e, fun a => op_cut a, op_read, fun a => op_states a, fun a b c => op_next a b c, fun a b => op_ends a b, fun a => op_sees a, fun a b => op_compare a b, fun a => op_witness a, fun a b c e f => op_step a b c e f, fun a => op_plain a, fun a => op_infer a, fun a b c e f => op_op a b c e f, fun a => op_wipe a, fun a b c => op_judge a b c, op_shapes, fun a => op_way a, fun a b c e f => op_draw a b c e f, fun a b c e => op_counted a b c e, op_forget, fun a => op_told a⟩
theorem whole_start {p : Program} {e : Env} {s : State} {m : MethodId} {below : List Frame} {meth : Method} {c : Code} (l : Launch) {b L : Nat} {xs : Nat → Int32} (hL : L ≤ 384) (C0 : lw_At p s m meth c b L xs) : W p l e room_1 s m #[Value.ref b] below meth c s.heap [] 0 0 (lw_Z below #[Value.ref b] s) (entryFrame m ([Value.ref b] : List Value).toArray 4) :=
  lw_enter l all_ops inv_0 hL C0
