def va_fillR {α : Type} (f : Nat → α) (a b : Nat) (v : α) : Nat → α := fun j => if a ≤ j ∧ j < b then v else f j
theorem va_fillR_0 {α : Type} (f : Nat → α) (a : Nat) (v : α) : va_fillR f a a v = f := by funext j; unfold va_fillR; rw [if_neg (by omega)]
theorem va_fillR_s (f : Nat → Int32) {a b : Nat} (h : a ≤ b) (v : Int32) : upd (va_fillR f a b v) b v = va_fillR f a (b + 1) v := by
  funext j
  unfold upd va_fillR
  by_cases h1 : j = b
  · rw [if_pos h1, if_pos (by omega)]
  · rw [if_neg h1]
    by_cases h2 : a ≤ j ∧ j < b
    · rw [if_pos h2, if_pos (by omega)]
    · rw [if_neg h2, if_neg (by omega)]
theorem fmL_le (P : Nat → Bool) : ∀ m i, fmL P m i ≤ i + m
  | 0, i => Nat.le_refl _
  | m + 1, i => by
    unfold fmL
    by_cases h : P i = true
    · rw [if_pos h]; omega
    · rw [if_neg h]; have := fmL_le P m (i + 1); omega
/-- the nodes from i on get the first of the heads that is alike, or are heads themselves; none: a 25th -/
def rfL (al : Nat → Nat → Bool) : Nat → Nat → Nat → (Nat → Nat) → (Nat → Nat) → Option (Nat × (Nat → Nat) × (Nat → Nat))
  | 0, _, n, hd, fi => some (n, hd, fi)
  | m + 1, i, n, hd, fi => if fmL (fun k => al (hd k) i) n 0 = n then (if n < 24 then rfL al m (i + 1) (n + 1) (va_up hd n i) (va_up fi i n) else none) else rfL al m (i + 1) n hd (va_up fi i (fmL (fun k => al (hd k) i) n 0))
section DRB
variable {G : px_G} {ph : List px_E} {d c o : Nat} {Q : Option Value → List px_E → Prop} {f ga ha xa ea : Nat → Int32} {nx : Nat → Nat → Option Nat} {g hd : Nat → Nat}
set_option maxRecDepth 100000 in
set_option maxHeartbeats 4000000 in
theorem c_rangeCheck {L a b : Nat} (hL : L < 2 ^ 31) (h1 : a ≤ b) (h2 : b ≤ L) (hQ : Q none ph) : px_Met G mJ7_rangeCheck_23922 d 0 0 [.int (nI L), .int (nI a), .int (nI b)] ph Q := by
  refine px_start kJ7_rangeCheck_23922 (Nat.le_of_ble_eq_true rfl) ?_
  show px_W G _ _ _ _ _ 0 0 0 [some (.int (nI L)), some (.int (nI a)), some (.int (nI b))] [] ph
  (repeat (first | (refine ⟨_, rfl, by omega, ?_⟩) | (refine px_st rfl rfl ?_; simp only [px_wp, px_at, px_set, px_set2, px_clr, px_ldi, px_ldl, px_lda, px_i1, px_i2, px_l1, px_l2, px_il, px_a1, px_r1, px_r2, px_ir, px_vir, px_g, px_v1, px_v2, px_gf, px_pf, px_ps, px_ar, px_nth, px_upd, px_zero, px_dfl, px_put_self, px_put_ne, px_sw, nI_add, pk_mul, true_and, and_true, Nat.reduceAdd, Nat.reduceLT, Nat.reduceEqDiff, List.length_cons, List.length_nil, true_or, or_true, List.set_set, ne_eq, not_false_eq_true, Fin.isValue, Fin.val_zero, Fin.val_one, Fin.val_two, reduceCtorEq, Option.map_some, List.length_set, Nat.zero_lt_succ, Option.toList_some, Option.toList_none, List.cons_append, List.nil_append, px_b_2, IA, LA, BA, ZA, QA, PT, DR, TL, MC, CD, CC])))
  refine ⟨fun _ => ?_, fun h => absurd h (nI_nlt h1 (by omega))⟩
  (repeat (first | (refine ⟨_, rfl, by omega, ?_⟩) | (refine px_st rfl rfl ?_; simp only [px_wp, px_at, px_set, px_set2, px_clr, px_ldi, px_ldl, px_lda, px_i1, px_i2, px_l1, px_l2, px_il, px_a1, px_r1, px_r2, px_ir, px_vir, px_g, px_v1, px_v2, px_gf, px_pf, px_ps, px_ar, px_nth, px_upd, px_zero, px_dfl, px_put_self, px_put_ne, px_sw, nI_add, pk_mul, true_and, and_true, Nat.reduceAdd, Nat.reduceLT, Nat.reduceEqDiff, List.length_cons, List.length_nil, true_or, or_true, List.set_set, ne_eq, not_false_eq_true, Fin.isValue, Fin.val_zero, Fin.val_one, Fin.val_two, reduceCtorEq, Option.map_some, List.length_set, Nat.zero_lt_succ, Option.toList_some, Option.toList_none, List.cons_append, List.nil_append, px_b_2, IA, LA, BA, ZA, QA, PT, DR, TL, MC, CD, CC])))
  refine ⟨fun _ => ?_, fun h => absurd h (nI_nlt (Nat.zero_le _) (by omega))⟩
  (repeat (first | (refine ⟨_, rfl, by omega, ?_⟩) | (refine px_st rfl rfl ?_; simp only [px_wp, px_at, px_set, px_set2, px_clr, px_ldi, px_ldl, px_lda, px_i1, px_i2, px_l1, px_l2, px_il, px_a1, px_r1, px_r2, px_ir, px_vir, px_g, px_v1, px_v2, px_gf, px_pf, px_ps, px_ar, px_nth, px_upd, px_zero, px_dfl, px_put_self, px_put_ne, px_sw, nI_add, pk_mul, true_and, and_true, Nat.reduceAdd, Nat.reduceLT, Nat.reduceEqDiff, List.length_cons, List.length_nil, true_or, or_true, List.set_set, ne_eq, not_false_eq_true, Fin.isValue, Fin.val_zero, Fin.val_one, Fin.val_two, reduceCtorEq, Option.map_some, List.length_set, Nat.zero_lt_succ, Option.toList_some, Option.toList_none, List.cons_append, List.nil_append, px_b_2, IA, LA, BA, ZA, QA, PT, DR, TL, MC, CD, CC])))
  refine ⟨fun _ => ?_, fun h => absurd h (nI_nlt h2 (by omega))⟩
  exact px_return rfl rfl (Nat.le_refl _) (Nat.le_refl _) hQ
set_option maxRecDepth 100000 in
set_option maxHeartbeats 4000000 in
theorem c_fillR {n a b : Nat} {v : Int32} (hn : n < 2 ^ 31) (h1 : a ≤ b) (h2 : b ≤ n) (ho : ph[o]? = some (IA n f)) (hQ : Q none (ph.set o (IA n (va_fillR f a b v)))) : px_Met G mJ7_fill_fda19 (d + 1) 0 0 [.ref o, .int (nI a), .int (nI b), .int v] ph Q := by
  refine px_start kJ7_fill_fda19 (Nat.le_of_ble_eq_true rfl) ?_
  show px_W G _ _ _ _ _ 0 0 0 [some (.ref o), some (.int (nI a)), some (.int (nI b)), some (.int v), none] [] ph
  (repeat (first | (refine ⟨_, rfl, by omega, ?_⟩) | (refine px_st rfl rfl ?_; simp only [px_wp, px_at, px_set, px_set2, px_clr, px_ldi, px_ldl, px_lda, px_i1, px_i2, px_l1, px_l2, px_il, px_a1, px_r1, px_r2, px_ir, px_vir, px_g, px_v1, px_v2, px_gf, px_pf, px_ps, px_ar, px_nth, px_upd, px_zero, px_dfl, px_put_self, px_put_ne, px_sw, nI_add, pk_mul, true_and, and_true, Nat.reduceAdd, Nat.reduceLT, Nat.reduceEqDiff, List.length_cons, List.length_nil, true_or, or_true, List.set_set, ne_eq, not_false_eq_true, Fin.isValue, Fin.val_zero, Fin.val_one, Fin.val_two, reduceCtorEq, Option.map_some, List.length_set, Nat.zero_lt_succ, Option.toList_some, Option.toList_none, List.cons_append, List.nil_append, px_b_2, IA, LA, BA, ZA, QA, PT, DR, TL, MC, CD, CC, ho])))
  refine ⟨by decide, ?_⟩
  (repeat (first | (refine ⟨_, rfl, by omega, ?_⟩) | (refine px_st rfl rfl ?_; simp only [px_wp, px_at, px_set, px_set2, px_clr, px_ldi, px_ldl, px_lda, px_i1, px_i2, px_l1, px_l2, px_il, px_a1, px_r1, px_r2, px_ir, px_vir, px_g, px_v1, px_v2, px_gf, px_pf, px_ps, px_ar, px_nth, px_upd, px_zero, px_dfl, px_put_self, px_put_ne, px_sw, nI_add, pk_mul, true_and, and_true, Nat.reduceAdd, Nat.reduceLT, Nat.reduceEqDiff, List.length_cons, List.length_nil, true_or, or_true, List.set_set, ne_eq, not_false_eq_true, Fin.isValue, Fin.val_zero, Fin.val_one, Fin.val_two, reduceCtorEq, Option.map_some, List.length_set, Nat.zero_lt_succ, Option.toList_some, Option.toList_none, List.cons_append, List.nil_append, px_b_2, IA, LA, BA, ZA, QA, PT, DR, TL, MC, CD, CC, ho])))
  refine px_cS rfl rfl kJ7_rangeCheck_23922 rfl (c_rangeCheck hn h1 h2 ?_) (Nat.le_refl _) rfl rfl (Nat.le_of_ble_eq_true rfl) (Nat.zero_le _) (Nat.zero_le _)
  have key : ∀ (m i : Nat), a ≤ i → i + m = b → px_W G mJ7_fill_fda19 (d + 1) 0 0 Q 0 0 10 [some (.ref o), some (.int (nI a)), some (.int (nI b)), some (.int v), some (.int (nI i))] [] (ph.set o (IA n (va_fillR f a i v))) := by
    intro m
    induction m with
    | zero =>
      intro i h3 hi
      have hib : i = b := by omega
      subst hib
      (repeat (first | (refine ⟨_, rfl, by omega, ?_⟩) | (refine px_st rfl rfl ?_; simp only [px_wp, px_at, px_set, px_set2, px_clr, px_ldi, px_ldl, px_lda, px_i1, px_i2, px_l1, px_l2, px_il, px_a1, px_r1, px_r2, px_ir, px_vir, px_g, px_v1, px_v2, px_gf, px_pf, px_ps, px_ar, px_nth, px_upd, px_zero, px_dfl, px_put_self, px_put_ne, px_sw, nI_add, pk_mul, true_and, and_true, Nat.reduceAdd, Nat.reduceLT, Nat.reduceEqDiff, List.length_cons, List.length_nil, true_or, or_true, List.set_set, ne_eq, not_false_eq_true, Fin.isValue, Fin.val_zero, Fin.val_one, Fin.val_two, reduceCtorEq, Option.map_some, List.length_set, Nat.zero_lt_succ, Option.toList_some, Option.toList_none, List.cons_append, List.nil_append, px_b_2, IA, LA, BA, ZA, QA, PT, DR, TL, MC, CD, CC])))
      refine ⟨fun _ => ?_, fun h => absurd h (nI_nlt (Nat.le_refl _) (by omega))⟩
      exact px_return rfl rfl (Nat.le_refl _) (Nat.le_refl _) hQ
    | succ m ih =>
      intro i h3 hi
      (repeat (first | (refine ⟨_, rfl, by omega, ?_⟩) | (refine px_st rfl rfl ?_; simp only [px_wp, px_at, px_set, px_set2, px_clr, px_ldi, px_ldl, px_lda, px_i1, px_i2, px_l1, px_l2, px_il, px_a1, px_r1, px_r2, px_ir, px_vir, px_g, px_v1, px_v2, px_gf, px_pf, px_ps, px_ar, px_nth, px_upd, px_zero, px_dfl, px_put_self, px_put_ne, px_sw, nI_add, pk_mul, true_and, and_true, Nat.reduceAdd, Nat.reduceLT, Nat.reduceEqDiff, List.length_cons, List.length_nil, true_or, or_true, List.set_set, ne_eq, not_false_eq_true, Fin.isValue, Fin.val_zero, Fin.val_one, Fin.val_two, reduceCtorEq, Option.map_some, List.length_set, Nat.zero_lt_succ, Option.toList_some, Option.toList_none, List.cons_append, List.nil_append, px_b_2, IA, LA, BA, ZA, QA, PT, DR, TL, MC, CD, CC])))
      refine ⟨fun h => absurd (nI_lt (by omega) (by omega)) h, fun _ => ?_⟩
      (repeat (first | (exact ih (i + 1) (by omega) (by omega)) | (refine ⟨_, rfl, by omega, ?_⟩) | (refine px_st rfl rfl ?_; simp only [px_wp, px_at, px_set, px_set2, px_clr, px_ldi, px_ldl, px_lda, px_i1, px_i2, px_l1, px_l2, px_il, px_a1, px_r1, px_r2, px_ir, px_vir, px_g, px_v1, px_v2, px_gf, px_pf, px_ps, px_ar, px_nth, px_upd, px_zero, px_dfl, px_put_self, px_put_ne, px_sw, nI_add, pk_mul, true_and, and_true, Nat.reduceAdd, Nat.reduceLT, Nat.reduceEqDiff, List.length_cons, List.length_nil, true_or, or_true, List.set_set, ne_eq, not_false_eq_true, Fin.isValue, Fin.val_zero, Fin.val_one, Fin.val_two, reduceCtorEq, Option.map_some, List.length_set, Nat.zero_lt_succ, Option.toList_some, Option.toList_none, List.cons_append, List.nil_append, px_b_2, IA, LA, BA, ZA, QA, PT, DR, TL, MC, CD, CC, ho, va_fillR_s f h3 v])))
  have h0 := key (b - a) a (Nat.le_refl _) (by omega)
  rw [va_fillR_0, px_put_id ho] at h0
  (repeat (first | (exact h0) | (refine ⟨_, rfl, by omega, ?_⟩) | (refine px_st rfl rfl ?_; simp only [px_wp, px_at, px_set, px_set2, px_clr, px_ldi, px_ldl, px_lda, px_i1, px_i2, px_l1, px_l2, px_il, px_a1, px_r1, px_r2, px_ir, px_vir, px_g, px_v1, px_v2, px_gf, px_pf, px_ps, px_ar, px_nth, px_upd, px_zero, px_dfl, px_put_self, px_put_ne, px_sw, nI_add, pk_mul, true_and, and_true, Nat.reduceAdd, Nat.reduceLT, Nat.reduceEqDiff, List.length_cons, List.length_nil, true_or, or_true, List.set_set, ne_eq, not_false_eq_true, Fin.isValue, Fin.val_zero, Fin.val_one, Fin.val_two, reduceCtorEq, Option.map_some, List.length_set, Nat.zero_lt_succ, Option.toList_some, Option.toList_none, List.cons_append, List.nil_append, px_b_2, IA, LA, BA, ZA, QA, PT, DR, TL, MC, CD, CC])))
set_option maxRecDepth 100000 in
set_option maxHeartbeats 4000000 in
theorem c_D_add {z : Bool} (hc : c ≤ 100) (h35 : ph[35]? = some (DR c)) (h36 : ph[36]? = some (IA 2400 f)) (h37 : ph[37]? = some (IA 100 ea)) (hQ1 : c = 100 → Q (some (.int (-3))) ph) (hQ2 : c < 100 → Q (some (.int (nI c))) (((ph.set 35 (DR (c + 1))).set 36 (IA 2400 (va_fillR f (c * 24) ((c + 1) * 24) (-2)))).set 37 (IA 100 (upd ea c (px_b z))))) : px_Met G mX3_add (d + 2) 0 0 [.ref 35, .int (px_b z)] ph Q := by
  refine px_start kX3_add (Nat.le_of_ble_eq_true rfl) ?_
  show px_W G _ _ _ _ _ 0 0 0 [some (.ref 35), some (.int (px_b z))] [] ph
  (repeat (first | (refine ⟨_, rfl, by omega, ?_⟩) | (refine px_st rfl rfl ?_; simp only [px_wp, px_at, px_set, px_set2, px_clr, px_ldi, px_ldl, px_lda, px_i1, px_i2, px_l1, px_l2, px_il, px_a1, px_r1, px_r2, px_ir, px_vir, px_g, px_v1, px_v2, px_gf, px_pf, px_ps, px_ar, px_nth, px_upd, px_zero, px_dfl, px_put_self, px_put_ne, px_sw, nI_add, pk_mul, true_and, and_true, Nat.reduceAdd, Nat.reduceLT, Nat.reduceEqDiff, List.length_cons, List.length_nil, true_or, or_true, List.set_set, ne_eq, not_false_eq_true, Fin.isValue, Fin.val_zero, Fin.val_one, Fin.val_two, reduceCtorEq, Option.map_some, List.length_set, Nat.zero_lt_succ, Option.toList_some, Option.toList_none, List.cons_append, List.nil_append, px_b_2, IA, LA, BA, ZA, QA, PT, DR, TL, MC, CD, CC, h35])))
  refine ⟨fun h => ?_, fun h => ?_⟩
  · have hlt : c < 100 := (nI_ltI (by omega) (by omega)).mp h
    (repeat (first | (refine ⟨_, rfl, by omega, ?_⟩) | (refine px_st rfl rfl ?_; simp only [px_wp, px_at, px_set, px_set2, px_clr, px_ldi, px_ldl, px_lda, px_i1, px_i2, px_l1, px_l2, px_il, px_a1, px_r1, px_r2, px_ir, px_vir, px_g, px_v1, px_v2, px_gf, px_pf, px_ps, px_ar, px_nth, px_upd, px_zero, px_dfl, px_put_self, px_put_ne, px_sw, nI_add, pk_mul, true_and, and_true, Nat.reduceAdd, Nat.reduceLT, Nat.reduceEqDiff, List.length_cons, List.length_nil, true_or, or_true, List.set_set, ne_eq, not_false_eq_true, Fin.isValue, Fin.val_zero, Fin.val_one, Fin.val_two, reduceCtorEq, Option.map_some, List.length_set, Nat.zero_lt_succ, Option.toList_some, Option.toList_none, List.cons_append, List.nil_append, px_b_2, IA, LA, BA, ZA, QA, PT, DR, TL, MC, CD, CC, h35])))
    refine px_cS rfl rfl kJ7_fill_fda19 rfl (c_fillR (by decide) (by omega) (by omega) h36 ?_) (Nat.le_refl _) rfl rfl (Nat.le_of_ble_eq_true rfl) (Nat.zero_le _) (Nat.zero_le _)
    (repeat (first | (refine ⟨_, rfl, by omega, ?_⟩) | (refine px_st rfl rfl ?_; simp only [px_wp, px_at, px_set, px_set2, px_clr, px_ldi, px_ldl, px_lda, px_i1, px_i2, px_l1, px_l2, px_il, px_a1, px_r1, px_r2, px_ir, px_vir, px_g, px_v1, px_v2, px_gf, px_pf, px_ps, px_ar, px_nth, px_upd, px_zero, px_dfl, px_put_self, px_put_ne, px_sw, nI_add, pk_mul, true_and, and_true, Nat.reduceAdd, Nat.reduceLT, Nat.reduceEqDiff, List.length_cons, List.length_nil, true_or, or_true, List.set_set, ne_eq, not_false_eq_true, Fin.isValue, Fin.val_zero, Fin.val_one, Fin.val_two, reduceCtorEq, Option.map_some, List.length_set, Nat.zero_lt_succ, Option.toList_some, Option.toList_none, List.cons_append, List.nil_append, px_b_2, IA, LA, BA, ZA, QA, PT, DR, TL, MC, CD, CC, h35, h37])))
    have hq := hQ2 hlt
    refine ⟨fun hz => ?_, fun hz => ?_⟩
    · rw [px_b_0.mp hz] at hq
      (repeat (first | (refine ⟨_, rfl, by omega, ?_⟩) | (refine px_st rfl rfl ?_; simp only [px_wp, px_at, px_set, px_set2, px_clr, px_ldi, px_ldl, px_lda, px_i1, px_i2, px_l1, px_l2, px_il, px_a1, px_r1, px_r2, px_ir, px_vir, px_g, px_v1, px_v2, px_gf, px_pf, px_ps, px_ar, px_nth, px_upd, px_zero, px_dfl, px_put_self, px_put_ne, px_sw, nI_add, pk_mul, true_and, and_true, Nat.reduceAdd, Nat.reduceLT, Nat.reduceEqDiff, List.length_cons, List.length_nil, true_or, or_true, List.set_set, ne_eq, not_false_eq_true, Fin.isValue, Fin.val_zero, Fin.val_one, Fin.val_two, reduceCtorEq, Option.map_some, List.length_set, Nat.zero_lt_succ, Option.toList_some, Option.toList_none, List.cons_append, List.nil_append, px_b_2, IA, LA, BA, ZA, QA, PT, DR, TL, MC, CD, CC, h35, h37])))
      exact px_ireturn rfl (Or.inl rfl) (Nat.le_refl _) (Nat.le_refl _) hq
    · rw [px_b_n0 hz] at hq
      (repeat (first | (refine ⟨_, rfl, by omega, ?_⟩) | (refine px_st rfl rfl ?_; simp only [px_wp, px_at, px_set, px_set2, px_clr, px_ldi, px_ldl, px_lda, px_i1, px_i2, px_l1, px_l2, px_il, px_a1, px_r1, px_r2, px_ir, px_vir, px_g, px_v1, px_v2, px_gf, px_pf, px_ps, px_ar, px_nth, px_upd, px_zero, px_dfl, px_put_self, px_put_ne, px_sw, nI_add, pk_mul, true_and, and_true, Nat.reduceAdd, Nat.reduceLT, Nat.reduceEqDiff, List.length_cons, List.length_nil, true_or, or_true, List.set_set, ne_eq, not_false_eq_true, Fin.isValue, Fin.val_zero, Fin.val_one, Fin.val_two, reduceCtorEq, Option.map_some, List.length_set, Nat.zero_lt_succ, Option.toList_some, Option.toList_none, List.cons_append, List.nil_append, px_b_2, IA, LA, BA, ZA, QA, PT, DR, TL, MC, CD, CC, h35, h37])))
      exact px_ireturn rfl (Or.inl rfl) (Nat.le_refl _) (Nat.le_refl _) hq
  · (repeat (first | (refine ⟨_, rfl, by omega, ?_⟩) | (refine px_st rfl rfl ?_; simp only [px_wp, px_at, px_set, px_set2, px_clr, px_ldi, px_ldl, px_lda, px_i1, px_i2, px_l1, px_l2, px_il, px_a1, px_r1, px_r2, px_ir, px_vir, px_g, px_v1, px_v2, px_gf, px_pf, px_ps, px_ar, px_nth, px_upd, px_zero, px_dfl, px_put_self, px_put_ne, px_sw, nI_add, pk_mul, true_and, and_true, Nat.reduceAdd, Nat.reduceLT, Nat.reduceEqDiff, List.length_cons, List.length_nil, true_or, or_true, List.set_set, ne_eq, not_false_eq_true, Fin.isValue, Fin.val_zero, Fin.val_one, Fin.val_two, reduceCtorEq, Option.map_some, List.length_set, Nat.zero_lt_succ, Option.toList_some, Option.toList_none, List.cons_append, List.nil_append, px_b_2, IA, LA, BA, ZA, QA, PT, DR, TL, MC, CD, CC])))
    exact px_ireturn rfl (Or.inl rfl) (Nat.le_refl _) (Nat.le_refl _) (hQ1 (by
      rcases Nat.lt_or_ge c 100 with h1 | h1
      · exact absurd (nI_lt h1 (by omega)) h
      · omega))
set_option maxRecDepth 100000 in
set_option maxHeartbeats 4000000 in
theorem c_D_refine (hc : c ≤ 100) (h35 : ph[35]? = some (DR c)) (h36 : ph[36]? = some (IA 2400 f)) (h38 : ph[38]? = some (IA 100 ga)) (h39 : ph[39]? = some (IA 100 xa)) (h40 : ph[40]? = some (IA 24 ha)) (hf : RNX c f nx) (hg : RG c ga g)
    (hQ1 : rfL (d_al nx g) c 0 0 (fun _ => 0) (fun _ => 0) = none → ∀ x y, Q (some (.int (-3))) ((ph.set 39 (IA 100 x)).set 40 (IA 24 y)))
    (hQ2 : ∀ n hd fi, rfL (d_al nx g) c 0 0 (fun _ => 0) (fun _ => 0) = some (n, hd, fi) → ∀ w x y, (∀ i, i < c → w i = nI (fi i)) → n ≤ 24 → (∀ k, k < n → hd k < c) → (∀ i, i < c → fi i < n) → Q (some (.int (nI n))) (((ph.set 38 (IA 100 w)).set 39 (IA 100 x)).set 40 (IA 24 y))) : px_Met G mX3_refine (d + 3) 0 0 [.ref 35] ph Q := by
  refine px_start kX3_refine (Nat.le_of_ble_eq_true rfl) ?_
  show px_W G _ _ _ _ _ 0 0 0 [some (.ref 35), none, none, none] [] ph
  generalize hT : rfL (d_al nx g) c 0 0 (fun _ => 0) (fun _ => 0) = T at hQ1 hQ2
  have key : ∀ (m i n : Nat) (hd fi : Nat → Nat) (x y : Nat → Int32) (x3 : Option Value), i + m = c → n ≤ 24 → rfL (d_al nx g) m i n hd fi = T → (∀ k, k < n → y k = nI (hd k) ∧ hd k < c) → (∀ j, j < i → x j = nI (fi j) ∧ fi j < n) → px_W G mX3_refine (d + 3) 0 0 Q 0 0 4 [some (.ref 35), some (.int (nI n)), some (.int (nI i)), x3] [] ((ph.set 39 (IA 100 x)).set 40 (IA 24 y)) := by
    intro m
    induction m with
    | zero =>
      intro i n hd fi x y x3 hi hn hr hy hx
      have hic : i = c := by omega
      subst hic
      have hr : some (n, hd, fi) = T := hr
      (repeat (first | (refine ⟨_, rfl, by omega, ?_⟩) | (refine px_st rfl rfl ?_; simp only [px_wp, px_at, px_set, px_set2, px_clr, px_ldi, px_ldl, px_lda, px_i1, px_i2, px_l1, px_l2, px_il, px_a1, px_r1, px_r2, px_ir, px_vir, px_g, px_v1, px_v2, px_gf, px_pf, px_ps, px_ar, px_nth, px_upd, px_zero, px_dfl, px_put_self, px_put_ne, px_sw, nI_add, pk_mul, true_and, and_true, Nat.reduceAdd, Nat.reduceLT, Nat.reduceEqDiff, List.length_cons, List.length_nil, true_or, or_true, List.set_set, ne_eq, not_false_eq_true, Fin.isValue, Fin.val_zero, Fin.val_one, Fin.val_two, reduceCtorEq, Option.map_some, List.length_set, Nat.zero_lt_succ, Option.toList_some, Option.toList_none, List.cons_append, List.nil_append, px_b_2, IA, LA, BA, ZA, QA, PT, DR, TL, MC, CD, CC, h35, h38, h39, h40])))
      refine ⟨fun _ => ?_, fun h => absurd h (nI_nlt (Nat.le_refl _) (by omega))⟩
      (repeat (first | (refine ⟨_, rfl, by omega, ?_⟩) | (refine px_st rfl rfl ?_; simp only [px_wp, px_at, px_set, px_set2, px_clr, px_ldi, px_ldl, px_lda, px_i1, px_i2, px_l1, px_l2, px_il, px_a1, px_r1, px_r2, px_ir, px_vir, px_g, px_v1, px_v2, px_gf, px_pf, px_ps, px_ar, px_nth, px_upd, px_zero, px_dfl, px_put_self, px_put_ne, px_sw, nI_add, pk_mul, true_and, and_true, Nat.reduceAdd, Nat.reduceLT, Nat.reduceEqDiff, List.length_cons, List.length_nil, true_or, or_true, List.set_set, ne_eq, not_false_eq_true, Fin.isValue, Fin.val_zero, Fin.val_one, Fin.val_two, reduceCtorEq, Option.map_some, List.length_set, Nat.zero_lt_succ, Option.toList_some, Option.toList_none, List.cons_append, List.nil_append, px_b_2, IA, LA, BA, ZA, QA, PT, DR, TL, MC, CD, CC, h35, h38, h39, h40])))
      refine px_copyi (sp := 0) (dp := 0) (N := i) rfl (by omega) (px_put_ne (by decide) |>.trans (px_put_self.trans (by rw [h39]; rfl))) ((px_put_ne (by decide)).trans ((px_put_ne (by decide)).trans h38)) (by omega) (by omega) (Nat.le_of_ble_eq_true rfl) ?_
      (repeat (first | (refine ⟨_, rfl, by omega, ?_⟩) | (refine px_st rfl rfl ?_; simp only [px_wp, px_at, px_set, px_set2, px_clr, px_ldi, px_ldl, px_lda, px_i1, px_i2, px_l1, px_l2, px_il, px_a1, px_r1, px_r2, px_ir, px_vir, px_g, px_v1, px_v2, px_gf, px_pf, px_ps, px_ar, px_nth, px_upd, px_zero, px_dfl, px_put_self, px_put_ne, px_sw, nI_add, pk_mul, true_and, and_true, Nat.reduceAdd, Nat.reduceLT, Nat.reduceEqDiff, List.length_cons, List.length_nil, true_or, or_true, List.set_set, ne_eq, not_false_eq_true, Fin.isValue, Fin.val_zero, Fin.val_one, Fin.val_two, reduceCtorEq, Option.map_some, List.length_set, Nat.zero_lt_succ, Option.toList_some, Option.toList_none, List.cons_append, List.nil_append, px_b_2, IA, LA, BA, ZA, QA, PT, DR, TL, MC, CD, CC])))
      refine px_ireturn rfl (Or.inl rfl) (Nat.le_refl _) (Nat.le_refl _) (hQ2 n hd fi hr.symm _ x y (fun j hj => ?_) hn (fun k hk => (hy k hk).2) (fun j hj => (hx j hj).2))
      rw [pk_cpy_in (Nat.zero_le _) (by omega), Nat.zero_add, Nat.sub_zero]
      exact (hx j hj).1
    | succ m ih =>
      intro i n hd fi x y x3 hi hn hr hy hx
      (repeat (first | (refine ⟨_, rfl, by omega, ?_⟩) | (refine px_st rfl rfl ?_; simp only [px_wp, px_at, px_set, px_set2, px_clr, px_ldi, px_ldl, px_lda, px_i1, px_i2, px_l1, px_l2, px_il, px_a1, px_r1, px_r2, px_ir, px_vir, px_g, px_v1, px_v2, px_gf, px_pf, px_ps, px_ar, px_nth, px_upd, px_zero, px_dfl, px_put_self, px_put_ne, px_sw, nI_add, pk_mul, true_and, and_true, Nat.reduceAdd, Nat.reduceLT, Nat.reduceEqDiff, List.length_cons, List.length_nil, true_or, or_true, List.set_set, ne_eq, not_false_eq_true, Fin.isValue, Fin.val_zero, Fin.val_one, Fin.val_two, reduceCtorEq, Option.map_some, List.length_set, Nat.zero_lt_succ, Option.toList_some, Option.toList_none, List.cons_append, List.nil_append, px_b_2, IA, LA, BA, ZA, QA, PT, DR, TL, MC, CD, CC, h35, h38, h39, h40])))
      refine ⟨fun h => absurd (nI_lt (by omega) (by omega)) h, fun _ => ?_⟩
      (repeat (first | (refine ⟨_, rfl, by omega, ?_⟩) | (refine px_st rfl rfl ?_; simp only [px_wp, px_at, px_set, px_set2, px_clr, px_ldi, px_ldl, px_lda, px_i1, px_i2, px_l1, px_l2, px_il, px_a1, px_r1, px_r2, px_ir, px_vir, px_g, px_v1, px_v2, px_gf, px_pf, px_ps, px_ar, px_nth, px_upd, px_zero, px_dfl, px_put_self, px_put_ne, px_sw, nI_add, pk_mul, true_and, and_true, Nat.reduceAdd, Nat.reduceLT, Nat.reduceEqDiff, List.length_cons, List.length_nil, true_or, or_true, List.set_set, ne_eq, not_false_eq_true, Fin.isValue, Fin.val_zero, Fin.val_one, Fin.val_two, reduceCtorEq, Option.map_some, List.length_set, Nat.zero_lt_succ, Option.toList_some, Option.toList_none, List.cons_append, List.nil_append, px_b_2, IA, LA, BA, ZA, QA, PT, DR, TL, MC, CD, CC, h35, h38, h39, h40])))
      have e35 : ((ph.set 39 (IA 100 x)).set 40 (IA 24 y))[35]? = some (DR c) := (px_put_ne (by decide)).trans ((px_put_ne (by decide)).trans h35)
      have e36 : ((ph.set 39 (IA 100 x)).set 40 (IA 24 y))[36]? = some (IA 2400 f) := (px_put_ne (by decide)).trans ((px_put_ne (by decide)).trans h36)
      have e38 : ((ph.set 39 (IA 100 x)).set 40 (IA 24 y))[38]? = some (IA 100 ga) := (px_put_ne (by decide)).trans ((px_put_ne (by decide)).trans h38)
      have e40 : ((ph.set 39 (IA 100 x)).set 40 (IA 24 y))[40]? = some (IA 24 y) := px_put_self.trans (by rw [px_put_ne (by decide), h40]; rfl)
      refine px_cV rfl rfl kX3_groupLike rfl (c_D_groupLike hc hn e35 e36 e38 e40 hf hg (show i < c by omega) hy ?_) (Nat.le_refl _) e35 rfl rfl rfl (Nat.le_of_ble_eq_true rfl) (Nat.zero_le _) (Nat.zero_le _)
      unfold rfL at hr
      have hle := fmL_le (fun k => d_al nx g (hd k) i) n 0
      rw [Nat.zero_add] at hle
      generalize fmL (fun k => d_al nx g (hd k) i) n 0 = t at hr hle
      (repeat (first | (refine ⟨_, rfl, by omega, ?_⟩) | (refine px_st rfl rfl ?_; simp only [px_wp, px_at, px_set, px_set2, px_clr, px_ldi, px_ldl, px_lda, px_i1, px_i2, px_l1, px_l2, px_il, px_a1, px_r1, px_r2, px_ir, px_vir, px_g, px_v1, px_v2, px_gf, px_pf, px_ps, px_ar, px_nth, px_upd, px_zero, px_dfl, px_put_self, px_put_ne, px_sw, nI_add, pk_mul, true_and, and_true, Nat.reduceAdd, Nat.reduceLT, Nat.reduceEqDiff, List.length_cons, List.length_nil, true_or, or_true, List.set_set, ne_eq, not_false_eq_true, Fin.isValue, Fin.val_zero, Fin.val_one, Fin.val_two, reduceCtorEq, Option.map_some, List.length_set, Nat.zero_lt_succ, Option.toList_some, Option.toList_none, List.cons_append, List.nil_append, px_b_2, IA, LA, BA, ZA, QA, PT, DR, TL, MC, CD, CC, h35, h38, h39, h40])))
      refine ⟨fun h => ?_, fun h => ?_⟩
      · have htn : ¬ t = n := fun q => h (by rw [q])
        rw [if_neg htn] at hr
        have hx' : ∀ j, j < i + 1 → upd x i (nI t) j = nI (va_up fi i t j) ∧ va_up fi i t j < n := fun j hj => by
          by_cases hji : j = i
          · subst hji; exact ⟨by simp [upd, va_up], by simp [va_up]; omega⟩
          · have := hx j (by omega); simp [upd, va_up, hji]; exact this
        (repeat (first | (exact ih (i + 1) n hd (va_up fi i t) (upd x i (nI t)) y _ (by omega) hn hr hy hx') | (refine ⟨_, rfl, by omega, ?_⟩) | (refine px_st rfl rfl ?_; simp only [px_wp, px_at, px_set, px_set2, px_clr, px_ldi, px_ldl, px_lda, px_i1, px_i2, px_l1, px_l2, px_il, px_a1, px_r1, px_r2, px_ir, px_vir, px_g, px_v1, px_v2, px_gf, px_pf, px_ps, px_ar, px_nth, px_upd, px_zero, px_dfl, px_put_self, px_put_ne, px_sw, nI_add, pk_mul, true_and, and_true, Nat.reduceAdd, Nat.reduceLT, Nat.reduceEqDiff, List.length_cons, List.length_nil, true_or, or_true, List.set_set, ne_eq, not_false_eq_true, Fin.isValue, Fin.val_zero, Fin.val_one, Fin.val_two, reduceCtorEq, Option.map_some, List.length_set, Nat.zero_lt_succ, Option.toList_some, Option.toList_none, List.cons_append, List.nil_append, px_b_2, IA, LA, BA, ZA, QA, PT, DR, TL, MC, CD, CC, h35, h38, h39, h40])))
      · have htn : t = n := (nI_eq (by omega) (by omega)).mp h
        subst htn
        rw [if_pos rfl] at hr
        (repeat (first | (refine ⟨_, rfl, by omega, ?_⟩) | (refine px_st rfl rfl ?_; simp only [px_wp, px_at, px_set, px_set2, px_clr, px_ldi, px_ldl, px_lda, px_i1, px_i2, px_l1, px_l2, px_il, px_a1, px_r1, px_r2, px_ir, px_vir, px_g, px_v1, px_v2, px_gf, px_pf, px_ps, px_ar, px_nth, px_upd, px_zero, px_dfl, px_put_self, px_put_ne, px_sw, nI_add, pk_mul, true_and, and_true, Nat.reduceAdd, Nat.reduceLT, Nat.reduceEqDiff, List.length_cons, List.length_nil, true_or, or_true, List.set_set, ne_eq, not_false_eq_true, Fin.isValue, Fin.val_zero, Fin.val_one, Fin.val_two, reduceCtorEq, Option.map_some, List.length_set, Nat.zero_lt_succ, Option.toList_some, Option.toList_none, List.cons_append, List.nil_append, px_b_2, IA, LA, BA, ZA, QA, PT, DR, TL, MC, CD, CC, h35, h38, h39, h40])))
        refine ⟨fun h2 => ?_, fun h2 => ?_⟩
        · have hlt : t < 24 := (nI_ltI (by omega) (by omega)).mp h2
          rw [if_pos hlt] at hr
          have hy' : ∀ k, k < t + 1 → upd y t (nI i) k = nI (va_up hd t i k) ∧ va_up hd t i k < c := fun k hk => by
            by_cases hkt : k = t
            · subst hkt; exact ⟨by simp [upd, va_up], by simp [va_up]; omega⟩
            · have := hy k (by omega); simp [upd, va_up, hkt]; exact this
          have hx' : ∀ j, j < i + 1 → upd x i (nI t) j = nI (va_up fi i t j) ∧ va_up fi i t j < t + 1 := fun j hj => by
            by_cases hji : j = i
            · subst hji; exact ⟨by simp [upd, va_up], by simp [va_up]⟩
            · have := hx j (by omega); simp [upd, va_up, hji]; exact ⟨this.1, by omega⟩
          (repeat (first | (exact ih (i + 1) (t + 1) (va_up hd t i) (va_up fi i t) (upd x i (nI t)) (upd y t (nI i)) _ (by omega) hlt hr hy' hx') | (refine ⟨_, rfl, by omega, ?_⟩) | (refine px_st rfl rfl ?_; simp only [px_wp, px_at, px_set, px_set2, px_clr, px_ldi, px_ldl, px_lda, px_i1, px_i2, px_l1, px_l2, px_il, px_a1, px_r1, px_r2, px_ir, px_vir, px_g, px_v1, px_v2, px_gf, px_pf, px_ps, px_ar, px_nth, px_upd, px_zero, px_dfl, px_put_self, px_put_ne, px_sw, nI_add, pk_mul, true_and, and_true, Nat.reduceAdd, Nat.reduceLT, Nat.reduceEqDiff, List.length_cons, List.length_nil, true_or, or_true, List.set_set, ne_eq, not_false_eq_true, Fin.isValue, Fin.val_zero, Fin.val_one, Fin.val_two, reduceCtorEq, Option.map_some, List.length_set, Nat.zero_lt_succ, Option.toList_some, Option.toList_none, List.cons_append, List.nil_append, px_b_2, IA, LA, BA, ZA, QA, PT, DR, TL, MC, CD, CC, h35, h38, h39, h40])))
        · have hge : ¬ t < 24 := fun q => h2 (nI_lt q (by omega))
          rw [if_neg hge] at hr
          (repeat (first | (refine ⟨_, rfl, by omega, ?_⟩) | (refine px_st rfl rfl ?_; simp only [px_wp, px_at, px_set, px_set2, px_clr, px_ldi, px_ldl, px_lda, px_i1, px_i2, px_l1, px_l2, px_il, px_a1, px_r1, px_r2, px_ir, px_vir, px_g, px_v1, px_v2, px_gf, px_pf, px_ps, px_ar, px_nth, px_upd, px_zero, px_dfl, px_put_self, px_put_ne, px_sw, nI_add, pk_mul, true_and, and_true, Nat.reduceAdd, Nat.reduceLT, Nat.reduceEqDiff, List.length_cons, List.length_nil, true_or, or_true, List.set_set, ne_eq, not_false_eq_true, Fin.isValue, Fin.val_zero, Fin.val_one, Fin.val_two, reduceCtorEq, Option.map_some, List.length_set, Nat.zero_lt_succ, Option.toList_some, Option.toList_none, List.cons_append, List.nil_append, px_b_2, IA, LA, BA, ZA, QA, PT, DR, TL, MC, CD, CC])))
          exact px_ireturn rfl (Or.inl rfl) (Nat.le_refl _) (Nat.le_refl _) (hQ1 hr.symm x y)
  have h0 := key c 0 0 (fun _ => 0) (fun _ => 0) xa ha none (by omega) (by omega) hT (fun k hk => absurd hk (by omega)) (fun k hk => absurd hk (by omega))
  rw [px_put_id h39, px_put_id h40] at h0
  (repeat (first | (exact h0) | (refine ⟨_, rfl, by omega, ?_⟩) | (refine px_st rfl rfl ?_; simp only [px_wp, px_at, px_set, px_set2, px_clr, px_ldi, px_ldl, px_lda, px_i1, px_i2, px_l1, px_l2, px_il, px_a1, px_r1, px_r2, px_ir, px_vir, px_g, px_v1, px_v2, px_gf, px_pf, px_ps, px_ar, px_nth, px_upd, px_zero, px_dfl, px_put_self, px_put_ne, px_sw, nI_add, pk_mul, true_and, and_true, Nat.reduceAdd, Nat.reduceLT, Nat.reduceEqDiff, List.length_cons, List.length_nil, true_or, or_true, List.set_set, ne_eq, not_false_eq_true, Fin.isValue, Fin.val_zero, Fin.val_one, Fin.val_two, reduceCtorEq, Option.map_some, List.length_set, Nat.zero_lt_succ, Option.toList_some, Option.toList_none, List.cons_append, List.nil_append, px_b_2, IA, LA, BA, ZA, QA, PT, DR, TL, MC, CD, CC])))
end DRB
