/-- the fields of the Model: its rows stand from 101 on; m: its numbers (0 texted, 1 places, 2 isPiece, 3 isRepeated, 4 raw, 5 machines, 6 witnessed, 7 shapes, 8 isTooMany, 9 seen, 10 wayLength, 11 place, 12 others, 13 othersBag, 14 chosen, 15 state, 16 own, 17 ownBag, 18 likely, 19 owner, 20 ownerBag, 21 objects, 22 bagged, 23 drawn) -/
def md (m : Nat → Int32) : List Value := [.ref 101, .int (m 0), .int (m 1), .ref 102, .ref 103, .ref 104, .ref 105, .ref 106, .ref 107, .ref 108, .ref 109, .ref 110, .int (m 2), .int (m 3), .int (m 4), .ref 111, .ref 112, .ref 113, .ref 114, .int (m 5), .ref 115, .ref 116, .ref 117, .ref 118, .ref 119, .ref 120, .ref 121, .ref 122, .ref 123, .ref 124, .ref 125, .int (m 6), .ref 126, .ref 127, .ref 128, .ref 129, .ref 130, .ref 131, .ref 132, .ref 133, .ref 134, .ref 135, .int (m 7), .ref 136, .ref 137, .ref 138, .ref 139, .int (m 8), .int (m 9), .int (m 10), .ref 140, .int (m 11), .int (m 12), .int (m 13), .int (m 14), .int (m 15), .int (m 16), .int (m 17), .int (m 18), .int (m 19), .int (m 20), .ref 141, .int (m 21), .ref 142, .ref 143, .ref 144, .ref 145, .ref 146, .ref 147, .int (m 22), .ref 148, .int (m 23), .ref 149, .ref 150, .ref 151, .ref 152]
theorem md_len {m : Nat → Int32} : (md m).length = 76 := rfl
theorem g_text {m : Nat → Int32} : px_nth (md m) 0 = some (.ref 101) := rfl
theorem g_texted {m : Nat → Int32} : px_nth (md m) 1 = some (.int (m 0)) := rfl
theorem p_texted {m : Nat → Int32} {v : Int32} : px_upd (md m) 1 (.int v) = md (upd m 0 v) := rfl
theorem g_places {m : Nat → Int32} : px_nth (md m) 2 = some (.int (m 1)) := rfl
theorem p_places {m : Nat → Int32} {v : Int32} : px_upd (md m) 2 (.int v) = md (upd m 1 v) := rfl
theorem g_takes {m : Nat → Int32} : px_nth (md m) 3 = some (.ref 102) := rfl
theorem g_followLow {m : Nat → Int32} : px_nth (md m) 4 = some (.ref 103) := rfl
theorem g_followHigh {m : Nat → Int32} : px_nth (md m) 5 = some (.ref 104) := rfl
theorem g_empty {m : Nat → Int32} : px_nth (md m) 6 = some (.ref 105) := rfl
theorem g_firstLow {m : Nat → Int32} : px_nth (md m) 7 = some (.ref 106) := rfl
theorem g_firstHigh {m : Nat → Int32} : px_nth (md m) 8 = some (.ref 107) := rfl
theorem g_lastLow {m : Nat → Int32} : px_nth (md m) 9 = some (.ref 108) := rfl
theorem g_lastHigh {m : Nat → Int32} : px_nth (md m) 10 = some (.ref 109) := rfl
theorem g_hasAlt {m : Nat → Int32} : px_nth (md m) 11 = some (.ref 110) := rfl
theorem g_isPiece {m : Nat → Int32} : px_nth (md m) 12 = some (.int (m 2)) := rfl
theorem p_isPiece {m : Nat → Int32} {v : Int32} : px_upd (md m) 12 (.int v) = md (upd m 2 v) := rfl
theorem g_isRepeated {m : Nat → Int32} : px_nth (md m) 13 = some (.int (m 3)) := rfl
theorem p_isRepeated {m : Nat → Int32} {v : Int32} : px_upd (md m) 13 (.int v) = md (upd m 3 v) := rfl
theorem g_raw {m : Nat → Int32} : px_nth (md m) 14 = some (.int (m 4)) := rfl
theorem p_raw {m : Nat → Int32} {v : Int32} : px_upd (md m) 14 (.int v) = md (upd m 4 v) := rfl
theorem g_rawTo {m : Nat → Int32} : px_nth (md m) 15 = some (.ref 111) := rfl
theorem g_rawEnd {m : Nat → Int32} : px_nth (md m) 16 = some (.ref 112) := rfl
theorem g_setLow {m : Nat → Int32} : px_nth (md m) 17 = some (.ref 113) := rfl
theorem g_setHigh {m : Nat → Int32} : px_nth (md m) 18 = some (.ref 114) := rfl
theorem g_machines {m : Nat → Int32} : px_nth (md m) 19 = some (.int (m 5)) := rfl
theorem p_machines {m : Nat → Int32} {v : Int32} : px_upd (md m) 19 (.int v) = md (upd m 5 v) := rfl
theorem g_states {m : Nat → Int32} : px_nth (md m) 20 = some (.ref 115) := rfl
theorem g_leads {m : Nat → Int32} : px_nth (md m) 21 = some (.ref 116) := rfl
theorem g_isEnd {m : Nat → Int32} : px_nth (md m) 22 = some (.ref 117) := rfl
theorem g_part {m : Nat → Int32} : px_nth (md m) 23 = some (.ref 118) := rfl
theorem g_finer {m : Nat → Int32} : px_nth (md m) 24 = some (.ref 119) := rfl
theorem g_numbered {m : Nat → Int32} : px_nth (md m) 25 = some (.ref 120) := rfl
theorem g_stateOf {m : Nat → Int32} : px_nth (md m) 26 = some (.ref 121) := rfl
theorem g_pair {m : Nat → Int32} : px_nth (md m) 27 = some (.ref 122) := rfl
theorem g_pairFrom {m : Nat → Int32} : px_nth (md m) 28 = some (.ref 123) := rfl
theorem g_pairBy {m : Nat → Int32} : px_nth (md m) 29 = some (.ref 124) := rfl
theorem g_isMet {m : Nat → Int32} : px_nth (md m) 30 = some (.ref 125) := rfl
theorem g_witnessed {m : Nat → Int32} : px_nth (md m) 31 = some (.int (m 6)) := rfl
theorem p_witnessed {m : Nat → Int32} {v : Int32} : px_upd (md m) 31 (.int v) = md (upd m 6 v) := rfl
theorem g_witness {m : Nat → Int32} : px_nth (md m) 32 = some (.ref 126) := rfl
theorem g_steps {m : Nat → Int32} : px_nth (md m) 33 = some (.ref 127) := rfl
theorem g_stepKind {m : Nat → Int32} : px_nth (md m) 34 = some (.ref 128) := rfl
theorem g_stepField {m : Nat → Int32} : px_nth (md m) 35 = some (.ref 129) := rfl
theorem g_stepValue {m : Nat → Int32} : px_nth (md m) 36 = some (.ref 130) := rfl
theorem g_ops {m : Nat → Int32} : px_nth (md m) 37 = some (.ref 131) := rfl
theorem g_opIs {m : Nat → Int32} : px_nth (md m) 38 = some (.ref 132) := rfl
theorem g_opA {m : Nat → Int32} : px_nth (md m) 39 = some (.ref 133) := rfl
theorem g_opB {m : Nat → Int32} : px_nth (md m) 40 = some (.ref 134) := rfl
theorem g_opC {m : Nat → Int32} : px_nth (md m) 41 = some (.ref 135) := rfl
theorem g_shapes {m : Nat → Int32} : px_nth (md m) 42 = some (.int (m 7)) := rfl
theorem p_shapes {m : Nat → Int32} {v : Int32} : px_upd (md m) 42 (.int v) = md (upd m 7 v) := rfl
theorem g_shape {m : Nat → Int32} : px_nth (md m) 43 = some (.ref 136) := rfl
theorem g_rank {m : Nat → Int32} : px_nth (md m) 44 = some (.ref 137) := rfl
theorem g_cameFrom {m : Nat → Int32} : px_nth (md m) 45 = some (.ref 138) := rfl
theorem g_slot {m : Nat → Int32} : px_nth (md m) 46 = some (.ref 139) := rfl
theorem g_isTooMany {m : Nat → Int32} : px_nth (md m) 47 = some (.int (m 8)) := rfl
theorem p_isTooMany {m : Nat → Int32} {v : Int32} : px_upd (md m) 47 (.int v) = md (upd m 8 v) := rfl
theorem g_seen {m : Nat → Int32} : px_nth (md m) 48 = some (.int (m 9)) := rfl
theorem p_seen {m : Nat → Int32} {v : Int32} : px_upd (md m) 48 (.int v) = md (upd m 9 v) := rfl
theorem g_wayLength {m : Nat → Int32} : px_nth (md m) 49 = some (.int (m 10)) := rfl
theorem p_wayLength {m : Nat → Int32} {v : Int32} : px_upd (md m) 49 (.int v) = md (upd m 10 v) := rfl
theorem g_way {m : Nat → Int32} : px_nth (md m) 50 = some (.ref 140) := rfl
theorem g_place {m : Nat → Int32} : px_nth (md m) 51 = some (.int (m 11)) := rfl
theorem p_place {m : Nat → Int32} {v : Int32} : px_upd (md m) 51 (.int v) = md (upd m 11 v) := rfl
theorem g_others {m : Nat → Int32} : px_nth (md m) 52 = some (.int (m 12)) := rfl
theorem p_others {m : Nat → Int32} {v : Int32} : px_upd (md m) 52 (.int v) = md (upd m 12 v) := rfl
theorem g_othersBag {m : Nat → Int32} : px_nth (md m) 53 = some (.int (m 13)) := rfl
theorem p_othersBag {m : Nat → Int32} {v : Int32} : px_upd (md m) 53 (.int v) = md (upd m 13 v) := rfl
theorem g_chosen {m : Nat → Int32} : px_nth (md m) 54 = some (.int (m 14)) := rfl
theorem p_chosen {m : Nat → Int32} {v : Int32} : px_upd (md m) 54 (.int v) = md (upd m 14 v) := rfl
theorem g_state {m : Nat → Int32} : px_nth (md m) 55 = some (.int (m 15)) := rfl
theorem p_state {m : Nat → Int32} {v : Int32} : px_upd (md m) 55 (.int v) = md (upd m 15 v) := rfl
theorem g_own {m : Nat → Int32} : px_nth (md m) 56 = some (.int (m 16)) := rfl
theorem p_own {m : Nat → Int32} {v : Int32} : px_upd (md m) 56 (.int v) = md (upd m 16 v) := rfl
theorem g_ownBag {m : Nat → Int32} : px_nth (md m) 57 = some (.int (m 17)) := rfl
theorem p_ownBag {m : Nat → Int32} {v : Int32} : px_upd (md m) 57 (.int v) = md (upd m 17 v) := rfl
theorem g_likely {m : Nat → Int32} : px_nth (md m) 58 = some (.int (m 18)) := rfl
theorem p_likely {m : Nat → Int32} {v : Int32} : px_upd (md m) 58 (.int v) = md (upd m 18 v) := rfl
theorem g_owner {m : Nat → Int32} : px_nth (md m) 59 = some (.int (m 19)) := rfl
theorem p_owner {m : Nat → Int32} {v : Int32} : px_upd (md m) 59 (.int v) = md (upd m 19 v) := rfl
theorem g_ownerBag {m : Nat → Int32} : px_nth (md m) 60 = some (.int (m 20)) := rfl
theorem p_ownerBag {m : Nat → Int32} {v : Int32} : px_upd (md m) 60 (.int v) = md (upd m 20 v) := rfl
theorem g_turn {m : Nat → Int32} : px_nth (md m) 61 = some (.ref 141) := rfl
theorem g_objects {m : Nat → Int32} : px_nth (md m) 62 = some (.int (m 21)) := rfl
theorem p_objects {m : Nat → Int32} {v : Int32} : px_upd (md m) 62 (.int v) = md (upd m 21 v) := rfl
theorem g_objectKind {m : Nat → Int32} : px_nth (md m) 63 = some (.ref 142) := rfl
theorem g_objectOwner {m : Nat → Int32} : px_nth (md m) 64 = some (.ref 143) := rfl
theorem g_objectState {m : Nat → Int32} : px_nth (md m) 65 = some (.ref 144) := rfl
theorem g_objectLast {m : Nat → Int32} : px_nth (md m) 66 = some (.ref 145) := rfl
theorem g_isBroken {m : Nat → Int32} : px_nth (md m) 67 = some (.ref 146) := rfl
theorem g_held {m : Nat → Int32} : px_nth (md m) 68 = some (.ref 147) := rfl
theorem g_bagged {m : Nat → Int32} : px_nth (md m) 69 = some (.int (m 22)) := rfl
theorem p_bagged {m : Nat → Int32} {v : Int32} : px_upd (md m) 69 (.int v) = md (upd m 22 v) := rfl
theorem g_bag {m : Nat → Int32} : px_nth (md m) 70 = some (.ref 148) := rfl
theorem g_drawn {m : Nat → Int32} : px_nth (md m) 71 = some (.int (m 23)) := rfl
theorem p_drawn {m : Nat → Int32} {v : Int32} : px_upd (md m) 71 (.int v) = md (upd m 23 v) := rfl
theorem g_countedObjects {m : Nat → Int32} : px_nth (md m) 72 = some (.ref 149) := rfl
theorem g_countedFirst {m : Nat → Int32} : px_nth (md m) 73 = some (.ref 150) := rfl
theorem g_countedLast {m : Nat → Int32} : px_nth (md m) 74 = some (.ref 151) := rfl
theorem g_countedNext {m : Nat → Int32} : px_nth (md m) 75 = some (.ref 152) := rfl
/-- the Model's object -/
abbrev MD (m : Nat → Int32) : px_E := .inr (12, md m)
def m_in (v lo hi : Int32) : Bool := !decide (v < lo) && !decide (hi < v)
section MOD
variable {G : px_G} {ph : List px_E} {d : Nat} {Q : Option Value → List px_E → Prop} {m : Nat → Int32}
set_option maxRecDepth 100000 in
set_option maxHeartbeats 4000000 in
theorem c_N_in (v lo hi : Int32) (hQ : Q (some (.int (px_b (m_in v lo hi)))) ph) : px_Met G mX12_in d 0 0 [.int v, .int lo, .int hi] ph Q := by
  refine px_start kX12_in (Nat.le_of_ble_eq_true rfl) ?_
  show px_W G _ _ _ _ _ 0 0 0 [some (.int v), some (.int lo), some (.int hi)] [] ph
  (repeat (first | (refine ⟨_, rfl, by omega, ?_⟩) | (refine px_st rfl rfl ?_; simp only [px_wp, px_at, px_set, px_set2, px_clr, px_ldi, px_ldl, px_lda, px_i1, px_i2, px_l1, px_l2, px_il, px_a1, px_r1, px_r2, px_ir, px_vir, px_g, px_v1, px_v2, px_gf, px_pf, px_ps, px_ar, px_nth, px_upd, px_zero, px_dfl, px_put_self, px_put_ne, px_sw, nI_add, pk_mul, true_and, and_true, Nat.reduceAdd, Nat.reduceLT, Nat.reduceEqDiff, List.length_cons, List.length_nil, true_or, or_true, List.set_set, ne_eq, not_false_eq_true, Fin.isValue, Fin.val_zero, Fin.val_one, Fin.val_two, reduceCtorEq, Option.map_some, List.length_set, Nat.zero_lt_succ, Option.toList_some, Option.toList_none, List.cons_append, List.nil_append, px_b_2, IA, LA, BA, ZA, QA, PT, DR, TL, MC, CD, CC])))
  refine ⟨fun h => ?_, fun h => ?_⟩
  · rw [show m_in v lo hi = false by simp [m_in, h]] at hQ
    (repeat (first | (refine ⟨_, rfl, by omega, ?_⟩) | (refine px_st rfl rfl ?_; simp only [px_wp, px_at, px_set, px_set2, px_clr, px_ldi, px_ldl, px_lda, px_i1, px_i2, px_l1, px_l2, px_il, px_a1, px_r1, px_r2, px_ir, px_vir, px_g, px_v1, px_v2, px_gf, px_pf, px_ps, px_ar, px_nth, px_upd, px_zero, px_dfl, px_put_self, px_put_ne, px_sw, nI_add, pk_mul, true_and, and_true, Nat.reduceAdd, Nat.reduceLT, Nat.reduceEqDiff, List.length_cons, List.length_nil, true_or, or_true, List.set_set, ne_eq, not_false_eq_true, Fin.isValue, Fin.val_zero, Fin.val_one, Fin.val_two, reduceCtorEq, Option.map_some, List.length_set, Nat.zero_lt_succ, Option.toList_some, Option.toList_none, List.cons_append, List.nil_append, px_b_2, IA, LA, BA, ZA, QA, PT, DR, TL, MC, CD, CC])))
    exact px_ireturn rfl (Or.inr ⟨rfl, Or.inl rfl⟩) (Nat.le_refl _) (Nat.le_refl _) hQ
  · (repeat (first | (refine ⟨_, rfl, by omega, ?_⟩) | (refine px_st rfl rfl ?_; simp only [px_wp, px_at, px_set, px_set2, px_clr, px_ldi, px_ldl, px_lda, px_i1, px_i2, px_l1, px_l2, px_il, px_a1, px_r1, px_r2, px_ir, px_vir, px_g, px_v1, px_v2, px_gf, px_pf, px_ps, px_ar, px_nth, px_upd, px_zero, px_dfl, px_put_self, px_put_ne, px_sw, nI_add, pk_mul, true_and, and_true, Nat.reduceAdd, Nat.reduceLT, Nat.reduceEqDiff, List.length_cons, List.length_nil, true_or, or_true, List.set_set, ne_eq, not_false_eq_true, Fin.isValue, Fin.val_zero, Fin.val_one, Fin.val_two, reduceCtorEq, Option.map_some, List.length_set, Nat.zero_lt_succ, Option.toList_some, Option.toList_none, List.cons_append, List.nil_append, px_b_2, IA, LA, BA, ZA, QA, PT, DR, TL, MC, CD, CC])))
    refine ⟨fun h2 => ?_, fun h2 => ?_⟩
    · rw [show m_in v lo hi = false by simp [m_in, h2]] at hQ
      (repeat (first | (refine ⟨_, rfl, by omega, ?_⟩) | (refine px_st rfl rfl ?_; simp only [px_wp, px_at, px_set, px_set2, px_clr, px_ldi, px_ldl, px_lda, px_i1, px_i2, px_l1, px_l2, px_il, px_a1, px_r1, px_r2, px_ir, px_vir, px_g, px_v1, px_v2, px_gf, px_pf, px_ps, px_ar, px_nth, px_upd, px_zero, px_dfl, px_put_self, px_put_ne, px_sw, nI_add, pk_mul, true_and, and_true, Nat.reduceAdd, Nat.reduceLT, Nat.reduceEqDiff, List.length_cons, List.length_nil, true_or, or_true, List.set_set, ne_eq, not_false_eq_true, Fin.isValue, Fin.val_zero, Fin.val_one, Fin.val_two, reduceCtorEq, Option.map_some, List.length_set, Nat.zero_lt_succ, Option.toList_some, Option.toList_none, List.cons_append, List.nil_append, px_b_2, IA, LA, BA, ZA, QA, PT, DR, TL, MC, CD, CC])))
      exact px_ireturn rfl (Or.inr ⟨rfl, Or.inl rfl⟩) (Nat.le_refl _) (Nat.le_refl _) hQ
    · rw [show m_in v lo hi = true by simp [m_in, h, h2]] at hQ
      (repeat (first | (refine ⟨_, rfl, by omega, ?_⟩) | (refine px_st rfl rfl ?_; simp only [px_wp, px_at, px_set, px_set2, px_clr, px_ldi, px_ldl, px_lda, px_i1, px_i2, px_l1, px_l2, px_il, px_a1, px_r1, px_r2, px_ir, px_vir, px_g, px_v1, px_v2, px_gf, px_pf, px_ps, px_ar, px_nth, px_upd, px_zero, px_dfl, px_put_self, px_put_ne, px_sw, nI_add, pk_mul, true_and, and_true, Nat.reduceAdd, Nat.reduceLT, Nat.reduceEqDiff, List.length_cons, List.length_nil, true_or, or_true, List.set_set, ne_eq, not_false_eq_true, Fin.isValue, Fin.val_zero, Fin.val_one, Fin.val_two, reduceCtorEq, Option.map_some, List.length_set, Nat.zero_lt_succ, Option.toList_some, Option.toList_none, List.cons_append, List.nil_append, px_b_2, IA, LA, BA, ZA, QA, PT, DR, TL, MC, CD, CC])))
      exact px_ireturn rfl (Or.inr ⟨rfl, Or.inr rfl⟩) (Nat.le_refl _) (Nat.le_refl _) hQ
theorem m_in_n {v : Int32} {a b : Nat} (ha : a < 2 ^ 31) (hb : b < 2 ^ 31) : m_in v (nI a) (nI b) = true ↔ ∃ j, a ≤ j ∧ j ≤ b ∧ v = nI j := by
  unfold m_in
  simp only [Bool.and_eq_true, Bool.not_eq_true', decide_eq_false_iff_not]
  constructor
  · rintro ⟨h1, h2⟩
    obtain ⟨j, hj, rfl⟩ := nI_of (x := v) (fun q => h1 (by
      rw [Int32.lt_iff_toInt_lt] at q ⊢
      rw [nI_toInt ha]
      simp at q
      omega))
    refine ⟨j, ?_, ?_, rfl⟩
    · rcases Nat.lt_or_ge j a with h | h
      · exact absurd (nI_lt h ha) h1
      · exact h
    · rcases Nat.lt_or_ge b j with h | h
      · exact absurd (nI_lt h hj) h2
      · exact h
  · rintro ⟨j, h1, h2, rfl⟩
    exact ⟨nI_nlt h1 (by omega), nI_nlt h2 hb⟩
set_option maxRecDepth 100000 in
set_option maxHeartbeats 4000000 in
theorem c_N_cut {n : Int32} (h100 : ph[100]? = some (MD m)) (hQ1 : m_in n (nI 0) (m 0) = false → Q (some (.int (-1))) ph) (hQ2 : m_in n (nI 0) (m 0) = true → Q (some (.int (m 0 - n))) (ph.set 100 (MD (upd m 0 (m 0 - n))))) : px_Met G mX12_cut (d + 1) 0 0 [.ref 100, .int n] ph Q := by
  refine px_start kX12_cut (Nat.le_of_ble_eq_true rfl) ?_
  show px_W G _ _ _ _ _ 0 0 0 [some (.ref 100), some (.int n)] [] ph
  (repeat (first | (refine ⟨_, rfl, by omega, ?_⟩) | (refine px_st rfl rfl ?_; simp only [px_wp, px_at, px_set, px_set2, px_clr, px_ldi, px_ldl, px_lda, px_i1, px_i2, px_l1, px_l2, px_il, px_a1, px_r1, px_r2, px_ir, px_vir, px_g, px_v1, px_v2, px_gf, px_pf, px_ps, px_ar, px_nth, px_upd, px_zero, px_dfl, px_put_self, px_put_ne, px_sw, nI_add, pk_mul, true_and, and_true, Nat.reduceAdd, Nat.reduceLT, Nat.reduceEqDiff, List.length_cons, List.length_nil, true_or, or_true, List.set_set, ne_eq, not_false_eq_true, Fin.isValue, Fin.val_zero, Fin.val_one, Fin.val_two, reduceCtorEq, Option.map_some, List.length_set, Nat.zero_lt_succ, Option.toList_some, Option.toList_none, List.cons_append, List.nil_append, px_b_2, IA, LA, BA, ZA, QA, PT, DR, TL, MC, CD, CC, h100, g_texted])))
  refine px_cS rfl rfl kX12_in rfl (c_N_in n (nI 0) (m 0) ?_) (Nat.le_refl _) rfl rfl (Nat.le_of_ble_eq_true rfl) (Nat.zero_le _) (Nat.zero_le _)
  (repeat (first | (refine ⟨_, rfl, by omega, ?_⟩) | (refine px_st rfl rfl ?_; simp only [px_wp, px_at, px_set, px_set2, px_clr, px_ldi, px_ldl, px_lda, px_i1, px_i2, px_l1, px_l2, px_il, px_a1, px_r1, px_r2, px_ir, px_vir, px_g, px_v1, px_v2, px_gf, px_pf, px_ps, px_ar, px_nth, px_upd, px_zero, px_dfl, px_put_self, px_put_ne, px_sw, nI_add, pk_mul, true_and, and_true, Nat.reduceAdd, Nat.reduceLT, Nat.reduceEqDiff, List.length_cons, List.length_nil, true_or, or_true, List.set_set, ne_eq, not_false_eq_true, Fin.isValue, Fin.val_zero, Fin.val_one, Fin.val_two, reduceCtorEq, Option.map_some, List.length_set, Nat.zero_lt_succ, Option.toList_some, Option.toList_none, List.cons_append, List.nil_append, px_b_2, IA, LA, BA, ZA, QA, PT, DR, TL, MC, CD, CC])))
  refine ⟨fun h => ?_, fun h => ?_⟩
  · (repeat (first | (refine ⟨_, rfl, by omega, ?_⟩) | (refine px_st rfl rfl ?_; simp only [px_wp, px_at, px_set, px_set2, px_clr, px_ldi, px_ldl, px_lda, px_i1, px_i2, px_l1, px_l2, px_il, px_a1, px_r1, px_r2, px_ir, px_vir, px_g, px_v1, px_v2, px_gf, px_pf, px_ps, px_ar, px_nth, px_upd, px_zero, px_dfl, px_put_self, px_put_ne, px_sw, nI_add, pk_mul, true_and, and_true, Nat.reduceAdd, Nat.reduceLT, Nat.reduceEqDiff, List.length_cons, List.length_nil, true_or, or_true, List.set_set, ne_eq, not_false_eq_true, Fin.isValue, Fin.val_zero, Fin.val_one, Fin.val_two, reduceCtorEq, Option.map_some, List.length_set, Nat.zero_lt_succ, Option.toList_some, Option.toList_none, List.cons_append, List.nil_append, px_b_2, IA, LA, BA, ZA, QA, PT, DR, TL, MC, CD, CC, h100, g_texted, p_texted, md_len, pk_us])))
    exact px_ireturn rfl (Or.inl rfl) (Nat.le_refl _) (Nat.le_refl _) (hQ2 (px_b_n0 h))
  · (repeat (first | (refine ⟨_, rfl, by omega, ?_⟩) | (refine px_st rfl rfl ?_; simp only [px_wp, px_at, px_set, px_set2, px_clr, px_ldi, px_ldl, px_lda, px_i1, px_i2, px_l1, px_l2, px_il, px_a1, px_r1, px_r2, px_ir, px_vir, px_g, px_v1, px_v2, px_gf, px_pf, px_ps, px_ar, px_nth, px_upd, px_zero, px_dfl, px_put_self, px_put_ne, px_sw, nI_add, pk_mul, true_and, and_true, Nat.reduceAdd, Nat.reduceLT, Nat.reduceEqDiff, List.length_cons, List.length_nil, true_or, or_true, List.set_set, ne_eq, not_false_eq_true, Fin.isValue, Fin.val_zero, Fin.val_one, Fin.val_two, reduceCtorEq, Option.map_some, List.length_set, Nat.zero_lt_succ, Option.toList_some, Option.toList_none, List.cons_append, List.nil_append, px_b_2, IA, LA, BA, ZA, QA, PT, DR, TL, MC, CD, CC])))
    exact px_ireturn rfl (Or.inl rfl) (Nat.le_refl _) (Nat.le_refl _) (hQ1 (px_b_0.mp h))
set_option maxRecDepth 100000 in
set_option maxHeartbeats 4000000 in
theorem c_N_wipe {x : Int32} {fo : Nat → Int32} (h100 : ph[100]? = some (MD m)) (h131 : ph[131]? = some (IA 4 fo)) (hQ1 : m_in x (nI 0) (nI 3) = false → Q (some (.int (-1))) ph) (hQ2 : ∀ j, j < 4 → x = nI j → Q (some (.int (fo j))) (ph.set 131 (IA 4 (upd fo j (nI 0))))) : px_Met G mX12_wipe (d + 1) 0 0 [.ref 100, .int x] ph Q := by
  refine px_start kX12_wipe (Nat.le_of_ble_eq_true rfl) ?_
  show px_W G _ _ _ _ _ 0 0 0 [some (.ref 100), some (.int x), none] [] ph
  (repeat (first | (refine ⟨_, rfl, by omega, ?_⟩) | (refine px_st rfl rfl ?_; simp only [px_wp, px_at, px_set, px_set2, px_clr, px_ldi, px_ldl, px_lda, px_i1, px_i2, px_l1, px_l2, px_il, px_a1, px_r1, px_r2, px_ir, px_vir, px_g, px_v1, px_v2, px_gf, px_pf, px_ps, px_ar, px_nth, px_upd, px_zero, px_dfl, px_put_self, px_put_ne, px_sw, nI_add, pk_mul, true_and, and_true, Nat.reduceAdd, Nat.reduceLT, Nat.reduceEqDiff, List.length_cons, List.length_nil, true_or, or_true, List.set_set, ne_eq, not_false_eq_true, Fin.isValue, Fin.val_zero, Fin.val_one, Fin.val_two, reduceCtorEq, Option.map_some, List.length_set, Nat.zero_lt_succ, Option.toList_some, Option.toList_none, List.cons_append, List.nil_append, px_b_2, IA, LA, BA, ZA, QA, PT, DR, TL, MC, CD, CC])))
  refine px_cS rfl rfl kX12_in rfl (c_N_in x (nI 0) (nI 3) ?_) (Nat.le_refl _) rfl rfl (Nat.le_of_ble_eq_true rfl) (Nat.zero_le _) (Nat.zero_le _)
  (repeat (first | (refine ⟨_, rfl, by omega, ?_⟩) | (refine px_st rfl rfl ?_; simp only [px_wp, px_at, px_set, px_set2, px_clr, px_ldi, px_ldl, px_lda, px_i1, px_i2, px_l1, px_l2, px_il, px_a1, px_r1, px_r2, px_ir, px_vir, px_g, px_v1, px_v2, px_gf, px_pf, px_ps, px_ar, px_nth, px_upd, px_zero, px_dfl, px_put_self, px_put_ne, px_sw, nI_add, pk_mul, true_and, and_true, Nat.reduceAdd, Nat.reduceLT, Nat.reduceEqDiff, List.length_cons, List.length_nil, true_or, or_true, List.set_set, ne_eq, not_false_eq_true, Fin.isValue, Fin.val_zero, Fin.val_one, Fin.val_two, reduceCtorEq, Option.map_some, List.length_set, Nat.zero_lt_succ, Option.toList_some, Option.toList_none, List.cons_append, List.nil_append, px_b_2, IA, LA, BA, ZA, QA, PT, DR, TL, MC, CD, CC])))
  refine ⟨fun h => ?_, fun h => ?_⟩
  · obtain ⟨j, -, hj, rfl⟩ := (m_in_n (by omega) (by omega)).mp (px_b_n0 h)
    (repeat (first | (refine ⟨_, rfl, by omega, ?_⟩) | (refine px_st rfl rfl ?_; simp only [px_wp, px_at, px_set, px_set2, px_clr, px_ldi, px_ldl, px_lda, px_i1, px_i2, px_l1, px_l2, px_il, px_a1, px_r1, px_r2, px_ir, px_vir, px_g, px_v1, px_v2, px_gf, px_pf, px_ps, px_ar, px_nth, px_upd, px_zero, px_dfl, px_put_self, px_put_ne, px_sw, nI_add, pk_mul, true_and, and_true, Nat.reduceAdd, Nat.reduceLT, Nat.reduceEqDiff, List.length_cons, List.length_nil, true_or, or_true, List.set_set, ne_eq, not_false_eq_true, Fin.isValue, Fin.val_zero, Fin.val_one, Fin.val_two, reduceCtorEq, Option.map_some, List.length_set, Nat.zero_lt_succ, Option.toList_some, Option.toList_none, List.cons_append, List.nil_append, px_b_2, IA, LA, BA, ZA, QA, PT, DR, TL, MC, CD, CC, h100, h131, g_ops])))
    exact px_ireturn rfl (Or.inl rfl) (Nat.le_refl _) (Nat.le_refl _) (hQ2 j (by omega) rfl)
  · (repeat (first | (refine ⟨_, rfl, by omega, ?_⟩) | (refine px_st rfl rfl ?_; simp only [px_wp, px_at, px_set, px_set2, px_clr, px_ldi, px_ldl, px_lda, px_i1, px_i2, px_l1, px_l2, px_il, px_a1, px_r1, px_r2, px_ir, px_vir, px_g, px_v1, px_v2, px_gf, px_pf, px_ps, px_ar, px_nth, px_upd, px_zero, px_dfl, px_put_self, px_put_ne, px_sw, nI_add, pk_mul, true_and, and_true, Nat.reduceAdd, Nat.reduceLT, Nat.reduceEqDiff, List.length_cons, List.length_nil, true_or, or_true, List.set_set, ne_eq, not_false_eq_true, Fin.isValue, Fin.val_zero, Fin.val_one, Fin.val_two, reduceCtorEq, Option.map_some, List.length_set, Nat.zero_lt_succ, Option.toList_some, Option.toList_none, List.cons_append, List.nil_append, px_b_2, IA, LA, BA, ZA, QA, PT, DR, TL, MC, CD, CC])))
    exact px_ireturn rfl (Or.inl rfl) (Nat.le_refl _) (Nat.le_refl _) (hQ1 (px_b_0.mp h))
set_option maxRecDepth 100000 in
set_option maxHeartbeats 4000000 in
theorem c_N_shapes (h100 : ph[100]? = some (MD m)) (hQ : Q (some (.int (m 7))) ph) : px_Met G mX12_shapes d 0 0 [.ref 100] ph Q := by
  refine px_start kX12_shapes (Nat.le_of_ble_eq_true rfl) ?_
  show px_W G _ _ _ _ _ 0 0 0 [some (.ref 100)] [] ph
  (repeat (first | (refine ⟨_, rfl, by omega, ?_⟩) | (refine px_st rfl rfl ?_; simp only [px_wp, px_at, px_set, px_set2, px_clr, px_ldi, px_ldl, px_lda, px_i1, px_i2, px_l1, px_l2, px_il, px_a1, px_r1, px_r2, px_ir, px_vir, px_g, px_v1, px_v2, px_gf, px_pf, px_ps, px_ar, px_nth, px_upd, px_zero, px_dfl, px_put_self, px_put_ne, px_sw, nI_add, pk_mul, true_and, and_true, Nat.reduceAdd, Nat.reduceLT, Nat.reduceEqDiff, List.length_cons, List.length_nil, true_or, or_true, List.set_set, ne_eq, not_false_eq_true, Fin.isValue, Fin.val_zero, Fin.val_one, Fin.val_two, reduceCtorEq, Option.map_some, List.length_set, Nat.zero_lt_succ, Option.toList_some, Option.toList_none, List.cons_append, List.nil_append, px_b_2, IA, LA, BA, ZA, QA, PT, DR, TL, MC, CD, CC, h100, g_shapes])))
  exact px_ireturn rfl (Or.inl rfl) (Nat.le_refl _) (Nat.le_refl _) hQ
/-- the sum of n places from a on -/
def sumR (f : Nat → Int32) (a : Nat) : Nat → Int32
  | 0 => nI 0
  | n + 1 => sumR f a n + f (a + n)
set_option maxRecDepth 100000 in
set_option maxHeartbeats 4000000 in
theorem c_N_stepsOf {j : Nat} {fs : Nat → Int32} (hj : j < 4) (h100 : ph[100]? = some (MD m)) (h127 : ph[127]? = some (IA 48 fs)) (hQ : Q (some (.int (sumR fs (12 * j) 12))) ph) : px_Met G mX12_stepsOf d 0 0 [.ref 100, .int (nI j)] ph Q := by
  refine px_start kX12_stepsOf (Nat.le_of_ble_eq_true rfl) ?_
  show px_W G _ _ _ _ _ 0 0 0 [some (.ref 100), some (.int (nI j)), none, none] [] ph
  have key : ∀ (r i : Nat), i + r = 12 → px_W G mX12_stepsOf d 0 0 Q 0 0 7 [some (.ref 100), some (.int (nI j)), some (.int (sumR fs (12 * j) i)), some (.int (nI (12 * j + i)))] [] ph := by
    intro r
    induction r with
    | zero =>
      intro i hi
      have hi4 : i = 12 := by omega
      subst hi4
      (repeat (first | (refine ⟨_, rfl, by omega, ?_⟩) | (refine px_st rfl rfl ?_; simp only [px_wp, px_at, px_set, px_set2, px_clr, px_ldi, px_ldl, px_lda, px_i1, px_i2, px_l1, px_l2, px_il, px_a1, px_r1, px_r2, px_ir, px_vir, px_g, px_v1, px_v2, px_gf, px_pf, px_ps, px_ar, px_nth, px_upd, px_zero, px_dfl, px_put_self, px_put_ne, px_sw, nI_add, pk_mul, true_and, and_true, Nat.reduceAdd, Nat.reduceLT, Nat.reduceEqDiff, List.length_cons, List.length_nil, true_or, or_true, List.set_set, ne_eq, not_false_eq_true, Fin.isValue, Fin.val_zero, Fin.val_one, Fin.val_two, reduceCtorEq, Option.map_some, List.length_set, Nat.zero_lt_succ, Option.toList_some, Option.toList_none, List.cons_append, List.nil_append, px_b_2, IA, LA, BA, ZA, QA, PT, DR, TL, MC, CD, CC])))
      refine ⟨fun _ => ?_, fun h => absurd h (nI_nlt (Nat.le_refl _) (by omega))⟩
      (repeat (first | (refine ⟨_, rfl, by omega, ?_⟩) | (refine px_st rfl rfl ?_; simp only [px_wp, px_at, px_set, px_set2, px_clr, px_ldi, px_ldl, px_lda, px_i1, px_i2, px_l1, px_l2, px_il, px_a1, px_r1, px_r2, px_ir, px_vir, px_g, px_v1, px_v2, px_gf, px_pf, px_ps, px_ar, px_nth, px_upd, px_zero, px_dfl, px_put_self, px_put_ne, px_sw, nI_add, pk_mul, true_and, and_true, Nat.reduceAdd, Nat.reduceLT, Nat.reduceEqDiff, List.length_cons, List.length_nil, true_or, or_true, List.set_set, ne_eq, not_false_eq_true, Fin.isValue, Fin.val_zero, Fin.val_one, Fin.val_two, reduceCtorEq, Option.map_some, List.length_set, Nat.zero_lt_succ, Option.toList_some, Option.toList_none, List.cons_append, List.nil_append, px_b_2, IA, LA, BA, ZA, QA, PT, DR, TL, MC, CD, CC])))
      exact px_ireturn rfl (Or.inl rfl) (Nat.le_refl _) (Nat.le_refl _) hQ
    | succ r ih =>
      intro i hi
      (repeat (first | (refine ⟨_, rfl, by omega, ?_⟩) | (refine px_st rfl rfl ?_; simp only [px_wp, px_at, px_set, px_set2, px_clr, px_ldi, px_ldl, px_lda, px_i1, px_i2, px_l1, px_l2, px_il, px_a1, px_r1, px_r2, px_ir, px_vir, px_g, px_v1, px_v2, px_gf, px_pf, px_ps, px_ar, px_nth, px_upd, px_zero, px_dfl, px_put_self, px_put_ne, px_sw, nI_add, pk_mul, true_and, and_true, Nat.reduceAdd, Nat.reduceLT, Nat.reduceEqDiff, List.length_cons, List.length_nil, true_or, or_true, List.set_set, ne_eq, not_false_eq_true, Fin.isValue, Fin.val_zero, Fin.val_one, Fin.val_two, reduceCtorEq, Option.map_some, List.length_set, Nat.zero_lt_succ, Option.toList_some, Option.toList_none, List.cons_append, List.nil_append, px_b_2, IA, LA, BA, ZA, QA, PT, DR, TL, MC, CD, CC])))
      refine ⟨fun h => absurd (nI_lt (by omega) (by omega)) h, fun h => ?_⟩
      (repeat (first | (exact ih (i + 1) (by omega)) | (refine ⟨_, rfl, by omega, ?_⟩) | (refine px_st rfl rfl ?_; simp only [px_wp, px_at, px_set, px_set2, px_clr, px_ldi, px_ldl, px_lda, px_i1, px_i2, px_l1, px_l2, px_il, px_a1, px_r1, px_r2, px_ir, px_vir, px_g, px_v1, px_v2, px_gf, px_pf, px_ps, px_ar, px_nth, px_upd, px_zero, px_dfl, px_put_self, px_put_ne, px_sw, nI_add, pk_mul, true_and, and_true, Nat.reduceAdd, Nat.reduceLT, Nat.reduceEqDiff, List.length_cons, List.length_nil, true_or, or_true, List.set_set, ne_eq, not_false_eq_true, Fin.isValue, Fin.val_zero, Fin.val_one, Fin.val_two, reduceCtorEq, Option.map_some, List.length_set, Nat.zero_lt_succ, Option.toList_some, Option.toList_none, List.cons_append, List.nil_append, px_b_2, IA, LA, BA, ZA, QA, PT, DR, TL, MC, CD, CC, h100, h127, g_steps, Nat.add_assoc])))
  (repeat (first | (exact key 12 0 rfl) | (refine ⟨_, rfl, by omega, ?_⟩) | (refine px_st rfl rfl ?_; simp only [px_wp, px_at, px_set, px_set2, px_clr, px_ldi, px_ldl, px_lda, px_i1, px_i2, px_l1, px_l2, px_il, px_a1, px_r1, px_r2, px_ir, px_vir, px_g, px_v1, px_v2, px_gf, px_pf, px_ps, px_ar, px_nth, px_upd, px_zero, px_dfl, px_put_self, px_put_ne, px_sw, nI_add, pk_mul, true_and, and_true, Nat.reduceAdd, Nat.reduceLT, Nat.reduceEqDiff, List.length_cons, List.length_nil, true_or, or_true, List.set_set, ne_eq, not_false_eq_true, Fin.isValue, Fin.val_zero, Fin.val_one, Fin.val_two, reduceCtorEq, Option.map_some, List.length_set, Nat.zero_lt_succ, Option.toList_some, Option.toList_none, List.cons_append, List.nil_append, px_b_2, IA, LA, BA, ZA, QA, PT, DR, TL, MC, CD, CC])))
set_option maxRecDepth 100000 in
set_option maxHeartbeats 4000000 in
theorem c_N_lead3 {i u e : Nat} {fl : Nat → Int32} (hi : i < 12) (hu : u < 24) (he : e < 24) (h100 : ph[100]? = some (MD m)) (h116 : ph[116]? = some (IA 6912 fl)) (hQ : Q (some (.int (fl (576 * i + 24 * u + e)))) ph) : px_Met G mX12_lead_ d 0 0 [.ref 100, .int (nI i), .int (nI u), .int (nI e)] ph Q := by
  refine px_start kX12_lead_ (Nat.le_of_ble_eq_true rfl) ?_
  show px_W G _ _ _ _ _ 0 0 0 [some (.ref 100), some (.int (nI i)), some (.int (nI u)), some (.int (nI e))] [] ph
  (repeat (first | (refine ⟨_, rfl, by omega, ?_⟩) | (refine px_st rfl rfl ?_; simp only [px_wp, px_at, px_set, px_set2, px_clr, px_ldi, px_ldl, px_lda, px_i1, px_i2, px_l1, px_l2, px_il, px_a1, px_r1, px_r2, px_ir, px_vir, px_g, px_v1, px_v2, px_gf, px_pf, px_ps, px_ar, px_nth, px_upd, px_zero, px_dfl, px_put_self, px_put_ne, px_sw, nI_add, pk_mul, true_and, and_true, Nat.reduceAdd, Nat.reduceLT, Nat.reduceEqDiff, List.length_cons, List.length_nil, true_or, or_true, List.set_set, ne_eq, not_false_eq_true, Fin.isValue, Fin.val_zero, Fin.val_one, Fin.val_two, reduceCtorEq, Option.map_some, List.length_set, Nat.zero_lt_succ, Option.toList_some, Option.toList_none, List.cons_append, List.nil_append, px_b_2, IA, LA, BA, ZA, QA, PT, DR, TL, MC, CD, CC, h100, h116, g_leads])))
  exact px_ireturn rfl (Or.inl rfl) (Nat.le_refl _) (Nat.le_refl _) hQ
end MOD
