theorem px_put_self {ph : List px_E} {o : Nat} {e : px_E} : (ph.set o e)[o]? = (ph[o]?).map (fun _ => e) := by
  by_cases h : o < ph.length
  · rw [List.getElem?_set_self h, List.getElem?_eq_getElem h]; rfl
  · rw [List.getElem?_eq_none (by rw [List.length_set]; omega), List.getElem?_eq_none (by omega)]; rfl
theorem px_put_ne {ph : List px_E} {o j : Nat} {e : px_E} (h : ¬ o = j) : (ph.set o e)[j]? = ph[j]? := List.getElem?_set_ne h
/-- stores sorted by their cells -/
theorem px_sw {ph : List px_E} {i j : Nat} {a b : px_E} (h : j < i) : (ph.set i a).set j b = (ph.set (j + 0) b).set i a := List.set_comm a b (by omega)
theorem px_put_id {ph : List px_E} {o : Nat} {e : px_E} (ho : ph[o]? = some e) : ph.set o e = ph := by
  apply List.ext_getElem?
  intro j
  by_cases hj : o = j
  · subst hj
    rw [List.getElem?_set_self (List.getElem?_eq_some_iff.mp ho).1, ho]
  · rw [List.getElem?_set_ne hj]
/-- cells: arrays of int, long, byte, boolean, references; objects -/
abbrev IA (n : Nat) (f : Nat → Int32) : px_E := .inl (0, n, .inl f)
abbrev LA (n : Nat) (f : Nat → Int64) : px_E := .inl (1, n, .inr (.inl f))
abbrev BA (n : Nat) (f : Nat → Int32) : px_E := .inl (2, n, .inl f)
abbrev ZA (n : Nat) (f : Nat → Int32) : px_E := .inl (3, n, .inl f)
abbrev QA (t n : Nat) (f : Nat → Option Nat) : px_E := .inl (t, n, .inr (.inr (.inr (.inr f))))
/-- a truth value as the machine has it -/
def px_b (b : Bool) : Int32 := if b then nI 1 else nI 0
abbrev PT (a b c e : Int64) (z : Bool) : px_E := .inr (7, [.long a, .long b, .long c, .long e, .int (px_b z)])
abbrev DR (c : Nat) : px_E := .inr (3, [.int (nI c), .ref 36, .ref 37, .ref 38, .ref 39, .ref 40, .ref 41, .ref 42, .ref 43])
abbrev TL : px_E := .inr (10, [.ref 90, .ref 91, .ref 92, .ref 93])
abbrev MC (s : Nat) (z : Bool) (p q : Nat) : px_E := .inr (6, [.int (nI s), .int (px_b z), .ref p, .ref q])
abbrev CD (c p q : Nat) : px_E := .inr (1, [.int (nI c), .ref p, .ref q])
abbrev CC (a b c e f : Nat) : px_E := .inr (0, [.ref a, .ref b, .ref c, .ref e, .ref f])
theorem px_b_0 {b : Bool} : px_b b = nI 0 ↔ b = false := by cases b <;> simp [px_b] <;> decide
theorem px_b_2 (b : Bool) : px_b b = nI 0 ∨ px_b b = nI 1 := by cases b; exact Or.inl rfl; exact Or.inr rfl
section CPS
variable {G : px_G} {M M' : px_M} {d mc ms d' : Nat} {Post : Option Value → List px_E → Prop} {k n pc nx a pos f i o ci : Nat} {v : Int32} {pl : List (Option Value)} {st as rest fs : List Value} {ph : List px_E}
theorem px_cV (hI : px_look (px_code M) pc = some (.invokevirtual i, nx, a, 0, pos, v, f)) (ha : px_ys[a]? = some (px_name M')) (hc' : px_chk M') (hk' : px_kind M' = 0) (hM : px_Met G M' d' 0 0 (.ref o :: as) ph (fun r ph' => px_W G M d mc ms Post k n nx pl (r.toList ++ rest) ph')) (hd' : d' + 1 ≤ d) (ho : ph[o]? = some (.inr (ci, fs))) (hci : (vwCl[ci]?).map (fun r => r.1) = some (px_name M').cls) (hst : st = as.reverse ++ .ref o :: rest) (hn' : as.length = px_np M') (hw : (rest.map fun v => v.category).sum ≤ 8) (hmc : k ≤ mc) (hms : n ≤ ms) : px_W G M d mc ms Post k n pc pl st ph :=
  px_callV hI ha hc' hk' hM hd' ho hci hst hn' hw hmc hms (fun _ _ h => h)
theorem px_cS (hI : px_look (px_code M) pc = some (.invokestatic i, nx, a, 0, pos, v, f)) (ha : px_ys[a]? = some (px_name M')) (hc' : px_chk M') (hk' : px_kind M' = 2) (hM : px_Met G M' d' 0 0 as ph (fun r ph' => px_W G M d mc ms Post k n nx pl (r.toList ++ rest) ph')) (hd' : d' + 1 ≤ d) (hst : st = as.reverse ++ rest) (hn' : as.length = px_np M') (hw : (rest.map fun v => v.category).sum ≤ 8) (hmc : k ≤ mc) (hms : n ≤ ms) : px_W G M d mc ms Post k n pc pl st ph :=
  px_callS hI ha hc' hk' hM hd' hst hn' hw hmc hms (fun _ _ h => h)
theorem px_cSN (hI : px_look (px_code M) pc = some (.invokestatic i, nx, a, 1, pos, v, f)) (ha : px_ys[a]? = some (px_name M')) (hc' : px_chk M') (hk' : px_kind M' = 2) (hM : px_Met G M' d' 0 0 as ph (fun r ph' => px_W G M d mc ms Post k n nx pl (r.toList ++ rest) ph')) (hd' : d' + 1 ≤ d) (hst : st = as.reverse ++ rest) (hn' : as.length = px_np M') (hw : (rest.map fun v => v.category).sum ≤ 8) (hmc : k ≤ mc) (hms : n ≤ ms) : px_W G M d mc ms Post k n pc pl st ph :=
  px_callSN hI ha hc' hk' hM hd' hst hn' hw hmc hms (fun _ _ h => h)
end CPS
def b_below (x : Int32) (N : Nat) : Bool := !decide (x < nI 0) && decide (x < nI N)
def va_fill {α : Type} (f : Nat → α) (n : Nat) (v : α) : Nat → α := fun j => if j < n then v else f j
theorem va_fill_0 {α : Type} (f : Nat → α) (v : α) : va_fill f 0 v = f := by funext j; simp [va_fill]
theorem va_fill_s (f : Nat → Int32) (n : Nat) (v : Int32) : upd (va_fill f n v) n v = va_fill f (n + 1) v := by
  funext j
  unfold upd va_fill
  by_cases h : j = n
  · simp [h]
  · by_cases h2 : j < n
    · simp [h, h2, Nat.lt_succ_of_lt h2]
    · simp [h, h2, show ¬ j < n + 1 by omega]
section FST
variable {G : px_G} {ph : List px_E} {d : Nat} {Q : Option Value → List px_E → Prop}
set_option maxRecDepth 100000 in
set_option maxHeartbeats 4000000 in
theorem c_below (x : Int32) (N : Nat) (hQ : Q (some (.int (px_b (b_below x N)))) ph) : px_Met G mX11_below d 0 0 [.int x, .int (nI N)] ph Q := by
  refine px_start kX11_below (Nat.le_of_ble_eq_true rfl) ?_
  show px_W G _ _ _ _ _ 0 0 0 [some (.int x), some (.int (nI N))] [] ph
  (repeat (first | (refine ⟨_, rfl, by omega, ?_⟩) | (refine px_st rfl rfl ?_; simp only [px_wp, px_at, px_set, px_set2, px_clr, px_ldi, px_ldl, px_lda, px_i1, px_i2, px_l1, px_l2, px_il, px_a1, px_r1, px_r2, px_ir, px_vir, px_g, px_v1, px_v2, px_gf, px_pf, px_ps, px_ar, px_nth, px_upd, px_zero, px_dfl, px_put_self, px_put_ne, px_sw, nI_add, pk_mul, true_and, and_true, Nat.reduceAdd, Nat.reduceLT, Nat.reduceEqDiff, List.length_cons, List.length_nil, true_or, or_true, List.set_set, ne_eq, not_false_eq_true, Fin.isValue, Fin.val_zero, Fin.val_one, Fin.val_two, reduceCtorEq, Option.map_some, List.length_set, Nat.zero_lt_succ, Option.toList_some, Option.toList_none, List.cons_append, List.nil_append, px_b_2, IA, LA, BA, ZA, QA, PT, DR, TL, MC, CD, CC])))
  refine ⟨fun h1 => ?_, fun h1 => ?_⟩
  · (repeat (first | (refine ⟨_, rfl, by omega, ?_⟩) | (refine px_st rfl rfl ?_; simp only [px_wp, px_at, px_set, px_set2, px_clr, px_ldi, px_ldl, px_lda, px_i1, px_i2, px_l1, px_l2, px_il, px_a1, px_r1, px_r2, px_ir, px_vir, px_g, px_v1, px_v2, px_gf, px_pf, px_ps, px_ar, px_nth, px_upd, px_zero, px_dfl, px_put_self, px_put_ne, px_sw, nI_add, pk_mul, true_and, and_true, Nat.reduceAdd, Nat.reduceLT, Nat.reduceEqDiff, List.length_cons, List.length_nil, true_or, or_true, List.set_set, ne_eq, not_false_eq_true, Fin.isValue, Fin.val_zero, Fin.val_one, Fin.val_two, reduceCtorEq, Option.map_some, List.length_set, Nat.zero_lt_succ, Option.toList_some, Option.toList_none, List.cons_append, List.nil_append, px_b_2, IA, LA, BA, ZA, QA, PT, DR, TL, MC, CD, CC])))
    have e : b_below x N = false := by simp [b_below, h1]
    rw [e] at hQ
    exact px_ireturn rfl (Or.inr ⟨rfl, Or.inl rfl⟩) (Nat.le_refl _) (Nat.le_refl _) hQ
  · (repeat (first | (refine ⟨_, rfl, by omega, ?_⟩) | (refine px_st rfl rfl ?_; simp only [px_wp, px_at, px_set, px_set2, px_clr, px_ldi, px_ldl, px_lda, px_i1, px_i2, px_l1, px_l2, px_il, px_a1, px_r1, px_r2, px_ir, px_vir, px_g, px_v1, px_v2, px_gf, px_pf, px_ps, px_ar, px_nth, px_upd, px_zero, px_dfl, px_put_self, px_put_ne, px_sw, nI_add, pk_mul, true_and, and_true, Nat.reduceAdd, Nat.reduceLT, Nat.reduceEqDiff, List.length_cons, List.length_nil, true_or, or_true, List.set_set, ne_eq, not_false_eq_true, Fin.isValue, Fin.val_zero, Fin.val_one, Fin.val_two, reduceCtorEq, Option.map_some, List.length_set, Nat.zero_lt_succ, Option.toList_some, Option.toList_none, List.cons_append, List.nil_append, px_b_2, IA, LA, BA, ZA, QA, PT, DR, TL, MC, CD, CC])))
    refine ⟨fun h2 => ?_, fun h2 => ?_⟩
    · (repeat (first | (refine ⟨_, rfl, by omega, ?_⟩) | (refine px_st rfl rfl ?_; simp only [px_wp, px_at, px_set, px_set2, px_clr, px_ldi, px_ldl, px_lda, px_i1, px_i2, px_l1, px_l2, px_il, px_a1, px_r1, px_r2, px_ir, px_vir, px_g, px_v1, px_v2, px_gf, px_pf, px_ps, px_ar, px_nth, px_upd, px_zero, px_dfl, px_put_self, px_put_ne, px_sw, nI_add, pk_mul, true_and, and_true, Nat.reduceAdd, Nat.reduceLT, Nat.reduceEqDiff, List.length_cons, List.length_nil, true_or, or_true, List.set_set, ne_eq, not_false_eq_true, Fin.isValue, Fin.val_zero, Fin.val_one, Fin.val_two, reduceCtorEq, Option.map_some, List.length_set, Nat.zero_lt_succ, Option.toList_some, Option.toList_none, List.cons_append, List.nil_append, px_b_2, IA, LA, BA, ZA, QA, PT, DR, TL, MC, CD, CC])))
      have e : b_below x N = false := by simp [b_below, h2]
      rw [e] at hQ
      exact px_ireturn rfl (Or.inr ⟨rfl, Or.inl rfl⟩) (Nat.le_refl _) (Nat.le_refl _) hQ
    · (repeat (first | (refine ⟨_, rfl, by omega, ?_⟩) | (refine px_st rfl rfl ?_; simp only [px_wp, px_at, px_set, px_set2, px_clr, px_ldi, px_ldl, px_lda, px_i1, px_i2, px_l1, px_l2, px_il, px_a1, px_r1, px_r2, px_ir, px_vir, px_g, px_v1, px_v2, px_gf, px_pf, px_ps, px_ar, px_nth, px_upd, px_zero, px_dfl, px_put_self, px_put_ne, px_sw, nI_add, pk_mul, true_and, and_true, Nat.reduceAdd, Nat.reduceLT, Nat.reduceEqDiff, List.length_cons, List.length_nil, true_or, or_true, List.set_set, ne_eq, not_false_eq_true, Fin.isValue, Fin.val_zero, Fin.val_one, Fin.val_two, reduceCtorEq, Option.map_some, List.length_set, Nat.zero_lt_succ, Option.toList_some, Option.toList_none, List.cons_append, List.nil_append, px_b_2, IA, LA, BA, ZA, QA, PT, DR, TL, MC, CD, CC])))
      have e : b_below x N = true := by simp [b_below, h1, h2]
      rw [e] at hQ
      exact px_ireturn rfl (Or.inr ⟨rfl, Or.inr rfl⟩) (Nat.le_refl _) (Nat.le_refl _) hQ
set_option maxRecDepth 100000 in
set_option maxHeartbeats 4000000 in
theorem c_fill {o n : Nat} {f : Nat → Int32} {v : Int32} (hn : n < 2 ^ 31) (ho : ph[o]? = some (.inl (0, n, .inl f))) (hQ : Q none (ph.set o (.inl (0, n, .inl (va_fill f n v))))) : px_Met G mJ7_fill_53178 d 0 0 [.ref o, .int v] ph Q := by
  refine px_start kJ7_fill_53178 (Nat.le_of_ble_eq_true rfl) ?_
  show px_W G _ _ _ _ _ 0 0 0 [some (.ref o), some (.int v), none, none] [] ph
  (repeat (first | (refine ⟨_, rfl, by omega, ?_⟩) | (refine px_st rfl rfl ?_; simp only [px_wp, px_at, px_set, px_set2, px_clr, px_ldi, px_ldl, px_lda, px_i1, px_i2, px_l1, px_l2, px_il, px_a1, px_r1, px_r2, px_ir, px_vir, px_g, px_v1, px_v2, px_gf, px_pf, px_ps, px_ar, px_nth, px_upd, px_zero, px_dfl, px_put_self, px_put_ne, px_sw, nI_add, pk_mul, true_and, and_true, Nat.reduceAdd, Nat.reduceLT, Nat.reduceEqDiff, List.length_cons, List.length_nil, true_or, or_true, List.set_set, ne_eq, not_false_eq_true, Fin.isValue, Fin.val_zero, Fin.val_one, Fin.val_two, reduceCtorEq, Option.map_some, List.length_set, Nat.zero_lt_succ, Option.toList_some, Option.toList_none, List.cons_append, List.nil_append, px_b_2, IA, LA, BA, ZA, QA, PT, DR, TL, MC, CD, CC, ho])))
  refine ⟨by decide, ?_⟩
  have key : ∀ (m i : Nat), i + m = n → px_W G mJ7_fill_53178 d 0 0 Q 0 0 5 [some (.ref o), some (.int v), some (.int (nI i)), some (.int (nI n))] [] (ph.set o (.inl (0, n, .inl (va_fill f i v)))) := by
    intro m
    induction m with
    | zero =>
      intro i hi
      (repeat (first | (refine ⟨_, rfl, by omega, ?_⟩) | (refine px_st rfl rfl ?_; simp only [px_wp, px_at, px_set, px_set2, px_clr, px_ldi, px_ldl, px_lda, px_i1, px_i2, px_l1, px_l2, px_il, px_a1, px_r1, px_r2, px_ir, px_vir, px_g, px_v1, px_v2, px_gf, px_pf, px_ps, px_ar, px_nth, px_upd, px_zero, px_dfl, px_put_self, px_put_ne, px_sw, nI_add, pk_mul, true_and, and_true, Nat.reduceAdd, Nat.reduceLT, Nat.reduceEqDiff, List.length_cons, List.length_nil, true_or, or_true, List.set_set, ne_eq, not_false_eq_true, Fin.isValue, Fin.val_zero, Fin.val_one, Fin.val_two, reduceCtorEq, Option.map_some, List.length_set, Nat.zero_lt_succ, Option.toList_some, Option.toList_none, List.cons_append, List.nil_append, px_b_2, IA, LA, BA, ZA, QA, PT, DR, TL, MC, CD, CC, ho])))
      refine ⟨fun h => ?_, fun h => ?_⟩
      · have : i = n := by omega
        subst this
        exact px_return rfl rfl (Nat.le_refl _) (Nat.le_refl _) hQ
      · exact absurd h (nI_nlt (by omega) (by omega))
    | succ m ih =>
      intro i hi
      (repeat (first | (refine ⟨_, rfl, by omega, ?_⟩) | (refine px_st rfl rfl ?_; simp only [px_wp, px_at, px_set, px_set2, px_clr, px_ldi, px_ldl, px_lda, px_i1, px_i2, px_l1, px_l2, px_il, px_a1, px_r1, px_r2, px_ir, px_vir, px_g, px_v1, px_v2, px_gf, px_pf, px_ps, px_ar, px_nth, px_upd, px_zero, px_dfl, px_put_self, px_put_ne, px_sw, nI_add, pk_mul, true_and, and_true, Nat.reduceAdd, Nat.reduceLT, Nat.reduceEqDiff, List.length_cons, List.length_nil, true_or, or_true, List.set_set, ne_eq, not_false_eq_true, Fin.isValue, Fin.val_zero, Fin.val_one, Fin.val_two, reduceCtorEq, Option.map_some, List.length_set, Nat.zero_lt_succ, Option.toList_some, Option.toList_none, List.cons_append, List.nil_append, px_b_2, IA, LA, BA, ZA, QA, PT, DR, TL, MC, CD, CC, ho])))
      refine ⟨fun h => absurd (nI_lt (by omega) hn) h, fun h => ?_⟩
      (repeat (first | (exact ih (i + 1) (by omega)) | (refine ⟨_, rfl, by omega, ?_⟩) | (refine px_st rfl rfl ?_; simp only [px_wp, px_at, px_set, px_set2, px_clr, px_ldi, px_ldl, px_lda, px_i1, px_i2, px_l1, px_l2, px_il, px_a1, px_r1, px_r2, px_ir, px_vir, px_g, px_v1, px_v2, px_gf, px_pf, px_ps, px_ar, px_nth, px_upd, px_zero, px_dfl, px_put_self, px_put_ne, px_sw, nI_add, pk_mul, true_and, and_true, Nat.reduceAdd, Nat.reduceLT, Nat.reduceEqDiff, List.length_cons, List.length_nil, true_or, or_true, List.set_set, ne_eq, not_false_eq_true, Fin.isValue, Fin.val_zero, Fin.val_one, Fin.val_two, reduceCtorEq, Option.map_some, List.length_set, Nat.zero_lt_succ, Option.toList_some, Option.toList_none, List.cons_append, List.nil_append, px_b_2, IA, LA, BA, ZA, QA, PT, DR, TL, MC, CD, CC, ho, va_fill_s])))
  have h0 := key n 0 (by omega)
  rw [va_fill_0, px_put_id ho] at h0
  (repeat (first | (exact h0) | (refine ⟨_, rfl, by omega, ?_⟩) | (refine px_st rfl rfl ?_; simp only [px_wp, px_at, px_set, px_set2, px_clr, px_ldi, px_ldl, px_lda, px_i1, px_i2, px_l1, px_l2, px_il, px_a1, px_r1, px_r2, px_ir, px_vir, px_g, px_v1, px_v2, px_gf, px_pf, px_ps, px_ar, px_nth, px_upd, px_zero, px_dfl, px_put_self, px_put_ne, px_sw, nI_add, pk_mul, true_and, and_true, Nat.reduceAdd, Nat.reduceLT, Nat.reduceEqDiff, List.length_cons, List.length_nil, true_or, or_true, List.set_set, ne_eq, not_false_eq_true, Fin.isValue, Fin.val_zero, Fin.val_one, Fin.val_two, reduceCtorEq, Option.map_some, List.length_set, Nat.zero_lt_succ, Option.toList_some, Option.toList_none, List.cons_append, List.nil_append, px_b_2, IA, LA, BA, ZA, QA, PT, DR, TL, MC, CD, CC, ho])))
end FST
