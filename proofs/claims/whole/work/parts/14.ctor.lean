theorem px_pre {pre l : List px_E} {L i : Nat} (hL : pre.length = L) (h : L ≤ i) : (pre ++ l)[i]? = l[i - L]? := by
  rw [List.getElem?_append_right (by omega), hL]
theorem px_preS {pre l : List px_E} {L i : Nat} {x : px_E} (hL : pre.length = L) (h : L ≤ i) : (pre ++ l).set i x = pre ++ l.set (i - L) x := by
  rw [List.set_append_right _ _ (by omega), hL]
def zI : Nat → Int32 := fun _ => 0
def zL : Nat → Int64 := fun _ => 0
def zQ : Nat → Option Nat := fun _ => none
section CTR
variable {G : px_G} {pre : List px_E} {d o : Nat} {Q : Option Value → List px_E → Prop}
set_option maxRecDepth 100000 in
set_option maxHeartbeats 4000000 in
theorem c_P_init {ph : List px_E} (hQ : Q none ph) : px_Met G mX7_init (d + 1) 0 0 [.ref o] ph Q := by
  refine px_start kX7_init (Nat.le_of_ble_eq_true rfl) ?_
  show px_W G _ _ _ _ _ 0 0 0 [some (.ref o)] [] ph
  (repeat (first | (refine ⟨_, rfl, by omega, ?_⟩) | (refine px_st rfl rfl ?_; simp only [px_wp, px_at, px_set, px_set2, px_clr, px_ldi, px_ldl, px_lda, px_i1, px_i2, px_l1, px_l2, px_il, px_a1, px_r1, px_r2, px_ir, px_vir, px_g, px_v1, px_v2, px_gf, px_pf, px_ps, px_ar, px_nth, px_upd, px_zero, px_dfl, px_put_self, px_put_ne, px_sw, nI_add, pk_mul, true_and, and_true, Nat.reduceAdd, Nat.reduceLT, Nat.reduceEqDiff, List.length_cons, List.length_nil, true_or, or_true, List.set_set, ne_eq, not_false_eq_true, Fin.isValue, Fin.val_zero, Fin.val_one, Fin.val_two, reduceCtorEq, Option.map_some, List.length_set, Nat.zero_lt_succ, Option.toList_some, Option.toList_none, List.cons_append, List.nil_append, px_b_2, IA, LA, BA, ZA, QA, PT, DR, TL, MC, CD, CC])))
  refine px_objInit rfl (by omega) (Nat.le_of_ble_eq_true rfl) ?_
  exact px_return rfl rfl (Nat.le_refl _) (Nat.le_refl _) hQ
set_option maxRecDepth 100000 in
set_option maxHeartbeats 4000000 in
theorem c_D_init (hL : pre.length = 35) (hQ : Q none (pre ++ [DR 0, IA 2400 zI, IA 100 zI, IA 100 zI, IA 100 zI, IA 24 zI, IA 24 zI, IA 576 zI, IA 24 zI])) : px_Met G mX3_init (d + 1) 8 3348 [.ref 35] (pre ++ [.inr (3, [.int 0, .null, .null, .null, .null, .null, .null, .null, .null])]) Q := by
  refine px_start kX3_init (Nat.le_of_ble_eq_true rfl) ?_
  show px_W G _ _ _ _ _ 0 0 0 [some (.ref 35)] [] _
  (repeat (first | (refine ⟨_, rfl, by omega, ?_⟩) | (refine ⟨by omega, by omega, ?_⟩) | (refine ⟨by omega, ?_⟩) | (refine ⟨fun _ => ?_, fun h => absurd h (by decide)⟩) | (refine ⟨fun h => absurd h (by decide), fun _ => ?_⟩) | (refine px_objInit rfl (by omega) (Nat.le_of_ble_eq_true rfl) ?_) | (refine px_st rfl rfl ?_; simp only [px_wp, px_at, px_set, px_set2, px_clr, px_ldi, px_ldl, px_lda, px_i1, px_i2, px_l1, px_l2, px_il, px_a1, px_r1, px_r2, px_ir, px_vir, px_g, px_v1, px_v2, px_gf, px_pf, px_ps, px_ar, px_nth, px_upd, px_zero, px_dfl, nI_add, pk_mul, true_and, and_true, Nat.reduceAdd, Nat.reduceLT, Nat.reduceEqDiff, List.length_cons, List.length_nil, true_or, or_true, List.set_set, ne_eq, not_false_eq_true, Fin.isValue, Fin.val_zero, Fin.val_one, Fin.val_two, reduceCtorEq, Option.map_some, Nat.zero_lt_succ, Option.toList_some, Option.toList_none, List.cons_append, List.nil_append, px_b_2, IA, LA, BA, ZA, QA, PT, DR, TL, MC, CD, CC, List.append_assoc, List.length_append, List.getElem?_cons_zero, List.getElem?_cons_succ, List.set_cons_zero, List.set_cons_succ, Nat.reduceSub, Nat.reduceLeDiff, Nat.zero_add, va_up, px_pre hL, px_preS hL, hL])))
  exact px_return rfl rfl (by omega) (by omega) hQ
abbrev CM (c : Nat) (r : Int32) : px_E := .inr (2, [.ref 46, .ref 47, .ref 48, .ref 49, .int (nI c), .int r])
set_option maxRecDepth 100000 in
set_option maxHeartbeats 4000000 in
theorem c_Q_init (hL : pre.length = 45) (hQ : Q none (pre ++ [.inr (2, [.ref 46, .ref 47, .ref 48, .ref 49, .int 0, .int (-2)]), IA 625 zI, IA 625 zI, IA 625 zI, IA 625 zI])) : px_Met G mX2_init (d + 1) 4 2500 [.ref 45] (pre ++ [.inr (2, [.null, .null, .null, .null, .int 0, .int 0])]) Q := by
  refine px_start kX2_init (Nat.le_of_ble_eq_true rfl) ?_
  show px_W G _ _ _ _ _ 0 0 0 [some (.ref 45)] [] _
  (repeat (first | (refine ⟨_, rfl, by omega, ?_⟩) | (refine ⟨by omega, by omega, ?_⟩) | (refine ⟨by omega, ?_⟩) | (refine ⟨fun _ => ?_, fun h => absurd h (by decide)⟩) | (refine ⟨fun h => absurd h (by decide), fun _ => ?_⟩) | (refine px_objInit rfl (by omega) (Nat.le_of_ble_eq_true rfl) ?_) | (refine px_st rfl rfl ?_; simp only [px_wp, px_at, px_set, px_set2, px_clr, px_ldi, px_ldl, px_lda, px_i1, px_i2, px_l1, px_l2, px_il, px_a1, px_r1, px_r2, px_ir, px_vir, px_g, px_v1, px_v2, px_gf, px_pf, px_ps, px_ar, px_nth, px_upd, px_zero, px_dfl, nI_add, pk_mul, true_and, and_true, Nat.reduceAdd, Nat.reduceLT, Nat.reduceEqDiff, List.length_cons, List.length_nil, true_or, or_true, List.set_set, ne_eq, not_false_eq_true, Fin.isValue, Fin.val_zero, Fin.val_one, Fin.val_two, reduceCtorEq, Option.map_some, Nat.zero_lt_succ, Option.toList_some, Option.toList_none, List.cons_append, List.nil_append, px_b_2, IA, LA, BA, ZA, QA, PT, DR, TL, MC, CD, CC, List.append_assoc, List.length_append, List.getElem?_cons_zero, List.getElem?_cons_succ, List.set_cons_zero, List.set_cons_succ, Nat.reduceSub, Nat.reduceLeDiff, Nat.zero_add, va_up, px_pre hL, px_preS hL, hL])))
  exact px_return rfl rfl (by omega) (by omega) hQ
set_option maxRecDepth 100000 in
set_option maxHeartbeats 4000000 in
theorem c_K_init (hL : pre.length = o) (hQ : Q none (pre ++ [CC (o + 1) (o + 2) (o + 3) (o + 4) (o + 5), IA 12 zI, IA 72 zI, IA 72 zI, IA 72 zI, IA 2 zI])) : px_Met G mX0_init (d + 1) 5 230 [.ref o] (pre ++ [.inr (0, [.null, .null, .null, .null, .null])]) Q := by
  refine px_start kX0_init (Nat.le_of_ble_eq_true rfl) ?_
  show px_W G _ _ _ _ _ 0 0 0 [some (.ref o)] [] _
  (repeat (first | (refine ⟨_, rfl, by omega, ?_⟩) | (refine ⟨by omega, by omega, ?_⟩) | (refine ⟨by omega, ?_⟩) | (refine ⟨fun _ => ?_, fun h => absurd h (by decide)⟩) | (refine ⟨fun h => absurd h (by decide), fun _ => ?_⟩) | (refine px_objInit rfl (by omega) (Nat.le_of_ble_eq_true rfl) ?_) | (refine px_st rfl rfl ?_; simp only [px_wp, px_at, px_set, px_set2, px_clr, px_ldi, px_ldl, px_lda, px_i1, px_i2, px_l1, px_l2, px_il, px_a1, px_r1, px_r2, px_ir, px_vir, px_g, px_v1, px_v2, px_gf, px_pf, px_ps, px_ar, px_nth, px_upd, px_zero, px_dfl, nI_add, pk_mul, true_and, and_true, Nat.reduceAdd, Nat.reduceLT, Nat.reduceEqDiff, List.length_cons, List.length_nil, true_or, or_true, List.set_set, ne_eq, not_false_eq_true, Fin.isValue, Fin.val_zero, Fin.val_one, Fin.val_two, reduceCtorEq, Option.map_some, Nat.zero_lt_succ, Option.toList_some, Option.toList_none, List.cons_append, List.nil_append, px_b_2, IA, LA, BA, ZA, QA, PT, DR, TL, MC, CD, CC, List.append_assoc, List.length_append, List.getElem?_cons_zero, List.getElem?_cons_succ, List.set_cons_zero, List.set_cons_succ, Nat.reduceSub, Nat.reduceLeDiff, Nat.zero_add, va_up, px_pre hL (Nat.le_refl _), px_preS hL (Nat.le_refl _), hL, Nat.sub_self])))
  exact px_return rfl rfl (by omega) (by omega) hQ
set_option maxRecDepth 100000 in
set_option maxHeartbeats 4000000 in
theorem c_C_init (hL : pre.length = o) (hQ : Q none (pre ++ [.inr (1, [.int 0, .ref (o + 1), .ref (o + 2)]), IA 32 zI, IA 96 zI])) : px_Met G mX1_init (d + 1) 2 128 [.ref o] (pre ++ [.inr (1, [.int 0, .null, .null])]) Q := by
  refine px_start kX1_init (Nat.le_of_ble_eq_true rfl) ?_
  show px_W G _ _ _ _ _ 0 0 0 [some (.ref o)] [] _
  (repeat (first | (refine ⟨_, rfl, by omega, ?_⟩) | (refine ⟨by omega, by omega, ?_⟩) | (refine ⟨by omega, ?_⟩) | (refine ⟨fun _ => ?_, fun h => absurd h (by decide)⟩) | (refine ⟨fun h => absurd h (by decide), fun _ => ?_⟩) | (refine px_objInit rfl (by omega) (Nat.le_of_ble_eq_true rfl) ?_) | (refine px_st rfl rfl ?_; simp only [px_wp, px_at, px_set, px_set2, px_clr, px_ldi, px_ldl, px_lda, px_i1, px_i2, px_l1, px_l2, px_il, px_a1, px_r1, px_r2, px_ir, px_vir, px_g, px_v1, px_v2, px_gf, px_pf, px_ps, px_ar, px_nth, px_upd, px_zero, px_dfl, nI_add, pk_mul, true_and, and_true, Nat.reduceAdd, Nat.reduceLT, Nat.reduceEqDiff, List.length_cons, List.length_nil, true_or, or_true, List.set_set, ne_eq, not_false_eq_true, Fin.isValue, Fin.val_zero, Fin.val_one, Fin.val_two, reduceCtorEq, Option.map_some, Nat.zero_lt_succ, Option.toList_some, Option.toList_none, List.cons_append, List.nil_append, px_b_2, IA, LA, BA, ZA, QA, PT, DR, TL, MC, CD, CC, List.append_assoc, List.length_append, List.getElem?_cons_zero, List.getElem?_cons_succ, List.set_cons_zero, List.set_cons_succ, Nat.reduceSub, Nat.reduceLeDiff, Nat.zero_add, va_up, px_pre hL (Nat.le_refl _), px_preS hL (Nat.le_refl _), hL, Nat.sub_self])))
  exact px_return rfl rfl (by omega) (by omega) hQ
set_option maxRecDepth 100000 in
set_option maxHeartbeats 4000000 in
theorem c_T_init (hL : pre.length = 89) (hQ : Q none (pre ++ [TL, IA 4 zI, IA 48 zI, IA 48 zI, IA 576 zI])) : px_Met G mX10_init (d + 1) 4 676 [.ref 89] (pre ++ [.inr (10, [.null, .null, .null, .null])]) Q := by
  refine px_start kX10_init (Nat.le_of_ble_eq_true rfl) ?_
  show px_W G _ _ _ _ _ 0 0 0 [some (.ref 89)] [] _
  (repeat (first | (refine ⟨_, rfl, by omega, ?_⟩) | (refine ⟨by omega, by omega, ?_⟩) | (refine ⟨by omega, ?_⟩) | (refine ⟨fun _ => ?_, fun h => absurd h (by decide)⟩) | (refine ⟨fun h => absurd h (by decide), fun _ => ?_⟩) | (refine px_objInit rfl (by omega) (Nat.le_of_ble_eq_true rfl) ?_) | (refine px_st rfl rfl ?_; simp only [px_wp, px_at, px_set, px_set2, px_clr, px_ldi, px_ldl, px_lda, px_i1, px_i2, px_l1, px_l2, px_il, px_a1, px_r1, px_r2, px_ir, px_vir, px_g, px_v1, px_v2, px_gf, px_pf, px_ps, px_ar, px_nth, px_upd, px_zero, px_dfl, nI_add, pk_mul, true_and, and_true, Nat.reduceAdd, Nat.reduceLT, Nat.reduceEqDiff, List.length_cons, List.length_nil, true_or, or_true, List.set_set, ne_eq, not_false_eq_true, Fin.isValue, Fin.val_zero, Fin.val_one, Fin.val_two, reduceCtorEq, Option.map_some, Nat.zero_lt_succ, Option.toList_some, Option.toList_none, List.cons_append, List.nil_append, px_b_2, IA, LA, BA, ZA, QA, PT, DR, TL, MC, CD, CC, List.append_assoc, List.length_append, List.getElem?_cons_zero, List.getElem?_cons_succ, List.set_cons_zero, List.set_cons_succ, Nat.reduceSub, Nat.reduceLeDiff, Nat.zero_add, va_up, px_pre hL, px_preS hL, hL])))
  exact px_return rfl rfl (by omega) (by omega) hQ
end CTR
