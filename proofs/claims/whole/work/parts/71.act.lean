def yGet (ah v : Nat) : List Nat := if dg ah 12 3 = 0 then [sHo ah v 0] else (if dg ah 14 1 = 1 then [sHo ah v 3] else []) ++ ((if dg ah 12 1 = 1 then [sHo ah v 1] else []) ++ if dg ah 13 1 = 1 then [sHo ah v 2] else [])
theorem yGet_x (ah v : Nat) : ∀ x, x ∈ yGet ah v ↔ x ∈ xGet ah v := by
  have hb := dg_bag ah
  intro x
  unfold yGet xGet
  by_cases h : dg ah 12 3 = 0
  · rw [if_pos h, if_pos h, if_neg (show ¬ dg ah 12 1 = 1 by omega), if_neg (show ¬ dg ah 13 1 = 1 by omega), if_neg (show ¬ dg ah 14 1 = 1 by omega)]
    simp
  · rw [if_neg h, if_neg h]
    show x ∈ (if dg ah 14 1 = 1 then [sHo ah v 3] else []) ++ ((if dg ah 12 1 = 1 then [sHo ah v 1] else []) ++ if dg ah 13 1 = 1 then [sHo ah v 2] else []) ↔ x ∈ [] ++ ((if dg ah 12 1 = 1 then [sHo ah v 1] else []) ++ ((if dg ah 13 1 = 1 then [sHo ah v 2] else []) ++ if dg ah 14 1 = 1 then [sHo ah v 3] else []))
    simp only [List.mem_append, List.nil_append]
    constructor
    · rintro (q | q | q)
      · exact Or.inr (Or.inr q)
      · exact Or.inl q
      · exact Or.inr (Or.inl q)
    · rintro (q | q | q)
      · exact Or.inr (Or.inl q)
      · exact Or.inr (Or.inr q)
      · exact Or.inl q
theorem tk_back {y v w : Nat} (hv : v < 6) (hw : 1 ≤ w) (hw4 : w < 4) : nI (mkW (sHo y v w) w) &&& ((nI 1 <<< (nI v &&& 31)) ^^^ (-1)) = nI (mkW (sHo y v 0) w) := by
  rw [tk_0 hv hw]
  show nI (mkW (rp (rp y (2 * v) 2 w) (2 * v) 2 0) w) = _
  rw [rp_rp hw4]
section GTE
variable {G : px_G} {ph : List px_E} {d : Nat} {Q : Option Value → List px_E → Prop} {m0 m : Nat → Int32} {n v k p : Nat} {st : NS} {sn : Nat} {z : Bool}
set_option maxRecDepth 100000 in
set_option maxHeartbeats 4000000 in
theorem c_N_get5 (hn : n < 2 ^ 28) (h : nX ph m0 m st) (hY : mY m n) (hv : v < 6) (hp : p < 64) (hQ : ∀ m' ph', fr FM ph ph' → nX ph' m0 m' (ntL st k (yGet (sMv n p) v)) → Q none ph') : px_Met G mX12_get (d + 1) 0 0 [.ref 100, .int (nI k), .int (nI v), .int (nI p)] ph Q := by
  have a : ∀ j l, j + l ≤ 22 → dg (sMv n p) j l = dg n j l := fun j l hj => dg_rp (by omega) (Or.inl hj)
  unfold yGet at hQ
  rw [a 12 3 (by omega), a 14 1 (by omega), a 12 1 (by omega), a 13 1 (by omega)] at hQ
  have hbag := dg_bag n
  have g1 := dg_lt n 12 1
  have g2 := dg_lt n 13 1
  have g3 := dg_lt n 14 1
  have e3 := mk_set (y := n) (v := v) (w := 3) hv (by omega) (by omega)
  have e1 := mk_set (y := n) (v := v) (w := 1) hv (by omega) (by omega)
  have e2 := mk_set (y := n) (v := v) (w := 2) hv (by omega) (by omega)
  have f3 := tk_back (y := n) (v := v) (w := 3) hv (by omega) (by omega)
  have f1 := tk_back (y := n) (v := v) (w := 1) hv (by omega) (by omega)
  have f2 := tk_back (y := n) (v := v) (w := 2) hv (by omega) (by omega)
  have hb : ∀ w, w < 4 → sHo n v w < 2 ^ 31 := fun w hw => by
    have : sHo n v w < 2 ^ 28 := rp_b hn hw (by omega)
    omega
  obtain ⟨bit, hbit⟩ : ∃ bit, nI 1 <<< (nI v &&& 31) = bit := ⟨_, rfl⟩
  rw [hbit] at e1 e2 e3 f1 f2 f3
  -- the owner
  have third : ∀ (m4 : Nat → Int32) (ph4 : List px_E) (st4 : NS), fr FM ph ph4 → nX ph4 m0 m4 st4 → mY m4 (sHo n v 0) → (∀ m' ph', fr FM ph ph' → nX ph' m0 m' (ntL st4 k (if dg n 13 1 = 1 then [sHo (sMv n p) v 2] else [])) → Q none ph') → px_W G mX12_get (d + 1) 0 0 Q 0 0 110 [some (.ref 100), some (.int (nI k)), some (.int (nI v)), some (.int (nI p)), some (.int bit)] [] ph4 := by
    intro m4 ph4 st4 hf4 hX4 hY4 hq
    have k4 := hX4.M
    obtain ⟨z3, z4, z5, z7, z8, z10⟩ := mY_0 hv hY4
    have z9 := hY4.2.2.2.2.2.2.2.1
    by_cases h1 : dg n 13 1 = 1
    · rw [if_pos h1] at hq
      rw [h1] at z10
      (repeat (first | (refine px_st rfl rfl ?_; simp only [px_wp, px_at, px_set, px_set2, px_clr, px_ldi, px_ldl, px_lda, px_i1, px_i2, px_l1, px_l2, px_il, px_a1, px_r1, px_r2, px_ir, px_vir, px_g, px_v1, px_v2, px_gf, px_pf, px_ps, px_ar, px_nth, px_upd, px_zero, px_dfl, px_put_self, px_put_ne, px_sw, nI_add, pk_mul, true_and, and_true, Nat.reduceAdd, Nat.reduceLT, Nat.reduceEqDiff, List.length_cons, List.length_nil, true_or, or_true, List.set_set, ne_eq, not_false_eq_true, Fin.isValue, Fin.val_zero, Fin.val_one, Fin.val_two, reduceCtorEq, Option.map_some, List.length_set, Nat.zero_lt_succ, Option.toList_some, Option.toList_none, List.cons_append, List.nil_append, px_b_2, IA, LA, BA, ZA, QA, PT, DR, TL, MC, CD, CC, false_and, or_false, false_or, nar_b, nar_0, nar_1, nar_y, k4, g_ownerBag, z10, g_owner, z9, e2, p_owner, md_len]) | (refine ⟨_, rfl, by omega, ?_⟩) | (refine ⟨fun h => absurd h (nI_nlt (by omega) (by omega)), fun _ => ?_⟩) | (refine ⟨fun _ => ?_, fun h => absurd h (nI_nlt (by omega) (by omega))⟩) | (refine ⟨fun h => absurd (nI_lt (by omega) (by omega)) h, fun _ => ?_⟩) | (refine ⟨fun _ => ?_, fun h => absurd (nI_lt (by omega) (by omega)) h⟩) | (refine ⟨fun h => absurd ((nI_eq (by omega) (by omega)).mp h) (by omega), fun _ => ?_⟩) | (refine ⟨fun _ => ?_, fun h => absurd ((nI_eq (by omega) (by omega)).mp h) (by omega)⟩) | (refine ⟨fun h => absurd h (by decide), fun _ => ?_⟩) | (refine ⟨fun _ => ?_, fun h => absurd h (by decide)⟩) | (refine ⟨fun h => absurd rfl h, fun _ => ?_⟩) | (refine ⟨fun _ => ?_, fun h => absurd rfl h⟩)))
      have hX5 := nX_m (m' := upd m4 19 (nI (mkW (sHo n v 2) 2))) hX4 (fun i hi => up_ne (by omega))
      have hY5 : mY (upd m4 19 (nI (mkW (sHo n v 2) 2))) (sHo n v 2) := mY_2 hv hY4 rfl (fun i _ _ q => up_ne q)
      refine px_cV rfl rfl kX12_note rfl (c_N_note (d := d) (k := k) hX5 hY5 (hb 2 (by omega)) hp (fun m6 ph6 hf6 hm6 hX6 => ?_)) (Nat.le_refl _) hX5.M rfl rfl rfl (Nat.le_of_ble_eq_true rfl) (Nat.zero_le _) (Nat.zero_le _)
      rw [mv_ho hv (by omega) (by omega)] at hX6
      have k6 := hX6.M
      have z19 : m6 19 = nI (mkW (sHo n v 2) 2) := (hm6 19 (by omega) (by omega)).trans rfl
      (repeat (first | (refine px_st rfl rfl ?_; simp only [px_wp, px_at, px_set, px_set2, px_clr, px_ldi, px_ldl, px_lda, px_i1, px_i2, px_l1, px_l2, px_il, px_a1, px_r1, px_r2, px_ir, px_vir, px_g, px_v1, px_v2, px_gf, px_pf, px_ps, px_ar, px_nth, px_upd, px_zero, px_dfl, px_put_self, px_put_ne, px_sw, nI_add, pk_mul, true_and, and_true, Nat.reduceAdd, Nat.reduceLT, Nat.reduceEqDiff, List.length_cons, List.length_nil, true_or, or_true, List.set_set, ne_eq, not_false_eq_true, Fin.isValue, Fin.val_zero, Fin.val_one, Fin.val_two, reduceCtorEq, Option.map_some, List.length_set, Nat.zero_lt_succ, Option.toList_some, Option.toList_none, List.cons_append, List.nil_append, px_b_2, IA, LA, BA, ZA, QA, PT, DR, TL, MC, CD, CC, false_and, or_false, false_or, nar_b, nar_0, nar_1, nar_y, k6, g_owner, z19, f2, p_owner, md_len]) | (refine ⟨_, rfl, by omega, ?_⟩) | (refine ⟨fun h => absurd h (nI_nlt (by omega) (by omega)), fun _ => ?_⟩) | (refine ⟨fun _ => ?_, fun h => absurd h (nI_nlt (by omega) (by omega))⟩) | (refine ⟨fun h => absurd (nI_lt (by omega) (by omega)) h, fun _ => ?_⟩) | (refine ⟨fun _ => ?_, fun h => absurd (nI_lt (by omega) (by omega)) h⟩) | (refine ⟨fun h => absurd ((nI_eq (by omega) (by omega)).mp h) (by omega), fun _ => ?_⟩) | (refine ⟨fun _ => ?_, fun h => absurd ((nI_eq (by omega) (by omega)).mp h) (by omega)⟩) | (refine ⟨fun h => absurd h (by decide), fun _ => ?_⟩) | (refine ⟨fun _ => ?_, fun h => absurd h (by decide)⟩) | (refine ⟨fun h => absurd rfl h, fun _ => ?_⟩) | (refine ⟨fun _ => ?_, fun h => absurd rfl h⟩)))
      exact px_return rfl rfl (Nat.le_refl _) (Nat.le_refl _) (hq _ _ (fr_tr (fr_tr hf4 (fm_set fr_id rfl)) (fr_tr hf6 (fm_set fr_id rfl))) (nX_m hX6 (fun i hi => up_ne (by omega))))
    · rw [if_neg h1] at hq
      rw [show dg n 13 1 = 0 by omega] at z10
      have hq2 := hq m4 ph4 hf4 hX4
      (repeat (first | (refine px_st rfl rfl ?_; simp only [px_wp, px_at, px_set, px_set2, px_clr, px_ldi, px_ldl, px_lda, px_i1, px_i2, px_l1, px_l2, px_il, px_a1, px_r1, px_r2, px_ir, px_vir, px_g, px_v1, px_v2, px_gf, px_pf, px_ps, px_ar, px_nth, px_upd, px_zero, px_dfl, px_put_self, px_put_ne, px_sw, nI_add, pk_mul, true_and, and_true, Nat.reduceAdd, Nat.reduceLT, Nat.reduceEqDiff, List.length_cons, List.length_nil, true_or, or_true, List.set_set, ne_eq, not_false_eq_true, Fin.isValue, Fin.val_zero, Fin.val_one, Fin.val_two, reduceCtorEq, Option.map_some, List.length_set, Nat.zero_lt_succ, Option.toList_some, Option.toList_none, List.cons_append, List.nil_append, px_b_2, IA, LA, BA, ZA, QA, PT, DR, TL, MC, CD, CC, false_and, or_false, false_or, nar_b, nar_0, nar_1, nar_y, k4, g_ownerBag, z10]) | (refine ⟨_, rfl, by omega, ?_⟩) | (refine ⟨fun h => absurd h (nI_nlt (by omega) (by omega)), fun _ => ?_⟩) | (refine ⟨fun _ => ?_, fun h => absurd h (nI_nlt (by omega) (by omega))⟩) | (refine ⟨fun h => absurd (nI_lt (by omega) (by omega)) h, fun _ => ?_⟩) | (refine ⟨fun _ => ?_, fun h => absurd (nI_lt (by omega) (by omega)) h⟩) | (refine ⟨fun h => absurd ((nI_eq (by omega) (by omega)).mp h) (by omega), fun _ => ?_⟩) | (refine ⟨fun _ => ?_, fun h => absurd ((nI_eq (by omega) (by omega)).mp h) (by omega)⟩) | (refine ⟨fun h => absurd h (by decide), fun _ => ?_⟩) | (refine ⟨fun _ => ?_, fun h => absurd h (by decide)⟩) | (refine ⟨fun h => absurd rfl h, fun _ => ?_⟩) | (refine ⟨fun _ => ?_, fun h => absurd rfl h⟩)))
      exact px_return rfl rfl (Nat.le_refl _) (Nat.le_refl _) hq2
  -- the chosen one
  have second : ∀ (m4 : Nat → Int32) (ph4 : List px_E) (st4 : NS), fr FM ph ph4 → nX ph4 m0 m4 st4 → mY m4 (sHo n v 0) → (∀ m' ph', fr FM ph ph' → nX ph' m0 m' (ntL st4 k ((if dg n 12 1 = 1 then [sHo (sMv n p) v 1] else []) ++ if dg n 13 1 = 1 then [sHo (sMv n p) v 2] else [])) → Q none ph') → px_W G mX12_get (d + 1) 0 0 Q 0 0 72 [some (.ref 100), some (.int (nI k)), some (.int (nI v)), some (.int (nI p)), some (.int bit)] [] ph4 := by
    intro m4 ph4 st4 hf4 hX4 hY4 hq
    have k4 := hX4.M
    obtain ⟨z3, z4, z5, z7, z8, z10⟩ := mY_0 hv hY4
    have z6 := hY4.2.2.2.2.1
    by_cases h1 : dg n 12 1 = 1
    · rw [if_pos h1] at hq
      rw [h1] at z7
      (repeat (first | (refine px_st rfl rfl ?_; simp only [px_wp, px_at, px_set, px_set2, px_clr, px_ldi, px_ldl, px_lda, px_i1, px_i2, px_l1, px_l2, px_il, px_a1, px_r1, px_r2, px_ir, px_vir, px_g, px_v1, px_v2, px_gf, px_pf, px_ps, px_ar, px_nth, px_upd, px_zero, px_dfl, px_put_self, px_put_ne, px_sw, nI_add, pk_mul, true_and, and_true, Nat.reduceAdd, Nat.reduceLT, Nat.reduceEqDiff, List.length_cons, List.length_nil, true_or, or_true, List.set_set, ne_eq, not_false_eq_true, Fin.isValue, Fin.val_zero, Fin.val_one, Fin.val_two, reduceCtorEq, Option.map_some, List.length_set, Nat.zero_lt_succ, Option.toList_some, Option.toList_none, List.cons_append, List.nil_append, px_b_2, IA, LA, BA, ZA, QA, PT, DR, TL, MC, CD, CC, false_and, or_false, false_or, nar_b, nar_0, nar_1, nar_y, k4, g_ownBag, z7, g_own, z6, e1, p_own, md_len]) | (refine ⟨_, rfl, by omega, ?_⟩) | (refine ⟨fun h => absurd h (nI_nlt (by omega) (by omega)), fun _ => ?_⟩) | (refine ⟨fun _ => ?_, fun h => absurd h (nI_nlt (by omega) (by omega))⟩) | (refine ⟨fun h => absurd (nI_lt (by omega) (by omega)) h, fun _ => ?_⟩) | (refine ⟨fun _ => ?_, fun h => absurd (nI_lt (by omega) (by omega)) h⟩) | (refine ⟨fun h => absurd ((nI_eq (by omega) (by omega)).mp h) (by omega), fun _ => ?_⟩) | (refine ⟨fun _ => ?_, fun h => absurd ((nI_eq (by omega) (by omega)).mp h) (by omega)⟩) | (refine ⟨fun h => absurd h (by decide), fun _ => ?_⟩) | (refine ⟨fun _ => ?_, fun h => absurd h (by decide)⟩) | (refine ⟨fun h => absurd rfl h, fun _ => ?_⟩) | (refine ⟨fun _ => ?_, fun h => absurd rfl h⟩)))
      have hX5 := nX_m (m' := upd m4 16 (nI (mkW (sHo n v 1) 1))) hX4 (fun i hi => up_ne (by omega))
      have hY5 : mY (upd m4 16 (nI (mkW (sHo n v 1) 1))) (sHo n v 1) := mY_1 hv hY4 rfl (fun i _ _ q => up_ne q)
      refine px_cV rfl rfl kX12_note rfl (c_N_note (d := d) (k := k) hX5 hY5 (hb 1 (by omega)) hp (fun m6 ph6 hf6 hm6 hX6 => ?_)) (Nat.le_refl _) hX5.M rfl rfl rfl (Nat.le_of_ble_eq_true rfl) (Nat.zero_le _) (Nat.zero_le _)
      rw [mv_ho hv (by omega) (by omega)] at hX6
      have k6 := hX6.M
      have z16 : m6 16 = nI (mkW (sHo n v 1) 1) := (hm6 16 (by omega) (by omega)).trans rfl
      have hX7 := nX_m (m' := upd m6 16 (nI (mkW (sHo n v 0) 1))) hX6 (fun i hi => up_ne (by omega))
      have hY7 : mY (upd m6 16 (nI (mkW (sHo n v 0) 1))) (sHo n v 0) := mY_of hY4 (fun i q1 q2 => by
        by_cases q : i = 16
        · subst q; exact z6.symm
        · rw [up_ne q, hm6 i (by omega) q2, up_ne q])
      have hr := third _ _ _ (fr_tr (fr_tr hf4 (fm_set fr_id rfl)) (fr_tr hf6 (fm_set fr_id rfl))) hX7 hY7 hq
      (repeat (first | (exact hr) | (refine px_st rfl rfl ?_; simp only [px_wp, px_at, px_set, px_set2, px_clr, px_ldi, px_ldl, px_lda, px_i1, px_i2, px_l1, px_l2, px_il, px_a1, px_r1, px_r2, px_ir, px_vir, px_g, px_v1, px_v2, px_gf, px_pf, px_ps, px_ar, px_nth, px_upd, px_zero, px_dfl, px_put_self, px_put_ne, px_sw, nI_add, pk_mul, true_and, and_true, Nat.reduceAdd, Nat.reduceLT, Nat.reduceEqDiff, List.length_cons, List.length_nil, true_or, or_true, List.set_set, ne_eq, not_false_eq_true, Fin.isValue, Fin.val_zero, Fin.val_one, Fin.val_two, reduceCtorEq, Option.map_some, List.length_set, Nat.zero_lt_succ, Option.toList_some, Option.toList_none, List.cons_append, List.nil_append, px_b_2, IA, LA, BA, ZA, QA, PT, DR, TL, MC, CD, CC, false_and, or_false, false_or, nar_b, nar_0, nar_1, nar_y, k6, g_own, z16, f1, p_own, md_len]) | (refine ⟨_, rfl, by omega, ?_⟩) | (refine ⟨fun h => absurd h (nI_nlt (by omega) (by omega)), fun _ => ?_⟩) | (refine ⟨fun _ => ?_, fun h => absurd h (nI_nlt (by omega) (by omega))⟩) | (refine ⟨fun h => absurd (nI_lt (by omega) (by omega)) h, fun _ => ?_⟩) | (refine ⟨fun _ => ?_, fun h => absurd (nI_lt (by omega) (by omega)) h⟩) | (refine ⟨fun h => absurd ((nI_eq (by omega) (by omega)).mp h) (by omega), fun _ => ?_⟩) | (refine ⟨fun _ => ?_, fun h => absurd ((nI_eq (by omega) (by omega)).mp h) (by omega)⟩) | (refine ⟨fun h => absurd h (by decide), fun _ => ?_⟩) | (refine ⟨fun _ => ?_, fun h => absurd h (by decide)⟩) | (refine ⟨fun h => absurd rfl h, fun _ => ?_⟩) | (refine ⟨fun _ => ?_, fun h => absurd rfl h⟩)))
    · rw [if_neg h1, List.nil_append] at hq
      rw [show dg n 12 1 = 0 by omega] at z7
      have hr := third m4 ph4 st4 hf4 hX4 hY4 hq
      (repeat (first | (exact hr) | (refine px_st rfl rfl ?_; simp only [px_wp, px_at, px_set, px_set2, px_clr, px_ldi, px_ldl, px_lda, px_i1, px_i2, px_l1, px_l2, px_il, px_a1, px_r1, px_r2, px_ir, px_vir, px_g, px_v1, px_v2, px_gf, px_pf, px_ps, px_ar, px_nth, px_upd, px_zero, px_dfl, px_put_self, px_put_ne, px_sw, nI_add, pk_mul, true_and, and_true, Nat.reduceAdd, Nat.reduceLT, Nat.reduceEqDiff, List.length_cons, List.length_nil, true_or, or_true, List.set_set, ne_eq, not_false_eq_true, Fin.isValue, Fin.val_zero, Fin.val_one, Fin.val_two, reduceCtorEq, Option.map_some, List.length_set, Nat.zero_lt_succ, Option.toList_some, Option.toList_none, List.cons_append, List.nil_append, px_b_2, IA, LA, BA, ZA, QA, PT, DR, TL, MC, CD, CC, false_and, or_false, false_or, nar_b, nar_0, nar_1, nar_y, k4, g_ownBag, z7]) | (refine ⟨_, rfl, by omega, ?_⟩) | (refine ⟨fun h => absurd h (nI_nlt (by omega) (by omega)), fun _ => ?_⟩) | (refine ⟨fun _ => ?_, fun h => absurd h (nI_nlt (by omega) (by omega))⟩) | (refine ⟨fun h => absurd (nI_lt (by omega) (by omega)) h, fun _ => ?_⟩) | (refine ⟨fun _ => ?_, fun h => absurd (nI_lt (by omega) (by omega)) h⟩) | (refine ⟨fun h => absurd ((nI_eq (by omega) (by omega)).mp h) (by omega), fun _ => ?_⟩) | (refine ⟨fun _ => ?_, fun h => absurd ((nI_eq (by omega) (by omega)).mp h) (by omega)⟩) | (refine ⟨fun h => absurd h (by decide), fun _ => ?_⟩) | (refine ⟨fun _ => ?_, fun h => absurd h (by decide)⟩) | (refine ⟨fun h => absurd rfl h, fun _ => ?_⟩) | (refine ⟨fun _ => ?_, fun h => absurd rfl h⟩)))
  refine px_start kX12_get (Nat.le_of_ble_eq_true rfl) ?_
  show px_W G _ _ _ _ _ 0 0 0 [some (.ref 100), some (.int (nI k)), some (.int (nI v)), some (.int (nI p)), none] [] ph
  (repeat (first | (refine px_st rfl rfl ?_; simp only [px_wp, px_at, px_set, px_set2, px_clr, px_ldi, px_ldl, px_lda, px_i1, px_i2, px_l1, px_l2, px_il, px_a1, px_r1, px_r2, px_ir, px_vir, px_g, px_v1, px_v2, px_gf, px_pf, px_ps, px_ar, px_nth, px_upd, px_zero, px_dfl, px_put_self, px_put_ne, px_sw, nI_add, pk_mul, true_and, and_true, Nat.reduceAdd, Nat.reduceLT, Nat.reduceEqDiff, List.length_cons, List.length_nil, true_or, or_true, List.set_set, ne_eq, not_false_eq_true, Fin.isValue, Fin.val_zero, Fin.val_one, Fin.val_two, reduceCtorEq, Option.map_some, List.length_set, Nat.zero_lt_succ, Option.toList_some, Option.toList_none, List.cons_append, List.nil_append, px_b_2, IA, LA, BA, ZA, QA, PT, DR, TL, MC, CD, CC, false_and, or_false, false_or, nar_b, nar_0, nar_1, nar_y]) | (refine ⟨_, rfl, by omega, ?_⟩) | (refine ⟨fun h => absurd h (nI_nlt (by omega) (by omega)), fun _ => ?_⟩) | (refine ⟨fun _ => ?_, fun h => absurd h (nI_nlt (by omega) (by omega))⟩) | (refine ⟨fun h => absurd (nI_lt (by omega) (by omega)) h, fun _ => ?_⟩) | (refine ⟨fun _ => ?_, fun h => absurd (nI_lt (by omega) (by omega)) h⟩) | (refine ⟨fun h => absurd ((nI_eq (by omega) (by omega)).mp h) (by omega), fun _ => ?_⟩) | (refine ⟨fun _ => ?_, fun h => absurd ((nI_eq (by omega) (by omega)).mp h) (by omega)⟩) | (refine ⟨fun h => absurd h (by decide), fun _ => ?_⟩) | (refine ⟨fun _ => ?_, fun h => absurd h (by decide)⟩) | (refine ⟨fun h => absurd rfl h, fun _ => ?_⟩) | (refine ⟨fun _ => ?_, fun h => absurd rfl h⟩)))
  refine px_cV rfl rfl kX12_take rfl (c_N_take (d := d) h.M hv hY (fun m1 hY1 hm1 => ?_)) (Nat.le_refl _) h.M rfl rfl rfl (Nat.le_of_ble_eq_true rfl) (Nat.zero_le _) (Nat.zero_le _)
  have hX1 := nX_m h (fun i hi => hm1 i (by omega))
  have g100 := hX1.M
  have hf1 : fr FM ph (ph.set 100 (MD m1)) := fm_set fr_id rfl
  generalize ph.set 100 (MD m1) = ph1 at hX1 g100 hf1 ⊢
  obtain ⟨z3, z4, z5, z7, z8, z10⟩ := mY_0 hv hY1
  have z2 := hY1.1
  by_cases h0 : dg n 12 3 = 0
  · rw [if_pos h0] at hQ
    rw [show dg n 14 1 = 0 by omega] at z3
    rw [show dg n 12 1 = 0 by omega] at z7
    rw [show dg n 13 1 = 0 by omega] at z10
    (repeat (first | (refine px_st rfl rfl ?_; simp only [px_wp, px_at, px_set, px_set2, px_clr, px_ldi, px_ldl, px_lda, px_i1, px_i2, px_l1, px_l2, px_il, px_a1, px_r1, px_r2, px_ir, px_vir, px_g, px_v1, px_v2, px_gf, px_pf, px_ps, px_ar, px_nth, px_upd, px_zero, px_dfl, px_put_self, px_put_ne, px_sw, nI_add, pk_mul, true_and, and_true, Nat.reduceAdd, Nat.reduceLT, Nat.reduceEqDiff, List.length_cons, List.length_nil, true_or, or_true, List.set_set, ne_eq, not_false_eq_true, Fin.isValue, Fin.val_zero, Fin.val_one, Fin.val_two, reduceCtorEq, Option.map_some, List.length_set, Nat.zero_lt_succ, Option.toList_some, Option.toList_none, List.cons_append, List.nil_append, px_b_2, IA, LA, BA, ZA, QA, PT, DR, TL, MC, CD, CC, false_and, or_false, false_or, nar_b, nar_0, nar_1, nar_y, g100, g_othersBag, g_ownBag, g_ownerBag, z3, z7, z10]) | (refine ⟨_, rfl, by omega, ?_⟩) | (refine ⟨fun h => absurd h (nI_nlt (by omega) (by omega)), fun _ => ?_⟩) | (refine ⟨fun _ => ?_, fun h => absurd h (nI_nlt (by omega) (by omega))⟩) | (refine ⟨fun h => absurd (nI_lt (by omega) (by omega)) h, fun _ => ?_⟩) | (refine ⟨fun _ => ?_, fun h => absurd (nI_lt (by omega) (by omega)) h⟩) | (refine ⟨fun h => absurd ((nI_eq (by omega) (by omega)).mp h) (by omega), fun _ => ?_⟩) | (refine ⟨fun _ => ?_, fun h => absurd ((nI_eq (by omega) (by omega)).mp h) (by omega)⟩) | (refine ⟨fun h => absurd h (by decide), fun _ => ?_⟩) | (refine ⟨fun _ => ?_, fun h => absurd h (by decide)⟩) | (refine ⟨fun h => absurd rfl h, fun _ => ?_⟩) | (refine ⟨fun _ => ?_, fun h => absurd rfl h⟩)))
    refine px_cV rfl rfl kX12_note rfl (c_N_note (d := d) (k := k) hX1 hY1 (hb 0 (by omega)) hp (fun m6 ph6 hf6 hm6 hX6 => ?_)) (Nat.le_refl _) hX1.M rfl rfl rfl (Nat.le_of_ble_eq_true rfl) (Nat.zero_le _) (Nat.zero_le _)
    rw [mv_ho hv (by omega) (by omega)] at hX6
    exact px_return rfl rfl (Nat.le_refl _) (Nat.le_refl _) (hQ m6 ph6 (fr_tr hf1 hf6) hX6)
  · rw [if_neg h0] at hQ
    have hsum : ¬ dg n 14 1 + dg n 12 1 + dg n 13 1 = 0 := by omega
    by_cases h1 : dg n 14 1 = 1
    · rw [if_pos h1] at hQ
      rw [h1] at z3
      (repeat (first | (refine px_st rfl rfl ?_; simp only [px_wp, px_at, px_set, px_set2, px_clr, px_ldi, px_ldl, px_lda, px_i1, px_i2, px_l1, px_l2, px_il, px_a1, px_r1, px_r2, px_ir, px_vir, px_g, px_v1, px_v2, px_gf, px_pf, px_ps, px_ar, px_nth, px_upd, px_zero, px_dfl, px_put_self, px_put_ne, px_sw, nI_add, pk_mul, true_and, and_true, Nat.reduceAdd, Nat.reduceLT, Nat.reduceEqDiff, List.length_cons, List.length_nil, true_or, or_true, List.set_set, ne_eq, not_false_eq_true, Fin.isValue, Fin.val_zero, Fin.val_one, Fin.val_two, reduceCtorEq, Option.map_some, List.length_set, Nat.zero_lt_succ, Option.toList_some, Option.toList_none, List.cons_append, List.nil_append, px_b_2, IA, LA, BA, ZA, QA, PT, DR, TL, MC, CD, CC, false_and, or_false, false_or, nar_b, nar_0, nar_1, nar_y, g100, g_othersBag, g_ownBag, g_ownerBag, z3, z7, z10, hbit, g_others, z2, e3, p_others, md_len]) | (refine ⟨_, rfl, by omega, ?_⟩) | (refine ⟨fun h => absurd h (nI_nlt (by omega) (by omega)), fun _ => ?_⟩) | (refine ⟨fun _ => ?_, fun h => absurd h (nI_nlt (by omega) (by omega))⟩) | (refine ⟨fun h => absurd (nI_lt (by omega) (by omega)) h, fun _ => ?_⟩) | (refine ⟨fun _ => ?_, fun h => absurd (nI_lt (by omega) (by omega)) h⟩) | (refine ⟨fun h => absurd ((nI_eq (by omega) (by omega)).mp h) (by omega), fun _ => ?_⟩) | (refine ⟨fun _ => ?_, fun h => absurd ((nI_eq (by omega) (by omega)).mp h) (by omega)⟩) | (refine ⟨fun h => absurd h (by decide), fun _ => ?_⟩) | (refine ⟨fun _ => ?_, fun h => absurd h (by decide)⟩) | (refine ⟨fun h => absurd rfl h, fun _ => ?_⟩) | (refine ⟨fun _ => ?_, fun h => absurd rfl h⟩)))
      have hX5 := nX_m (m' := upd m1 12 (nI (mkW (sHo n v 3) 3))) hX1 (fun i hi => up_ne (by omega))
      have hY5 : mY (upd m1 12 (nI (mkW (sHo n v 3) 3))) (sHo n v 3) := mY_3 hv hY1 rfl (fun i q1 _ => up_ne (by omega))
      refine px_cV rfl rfl kX12_note rfl (c_N_note (d := d) (k := k) hX5 hY5 (hb 3 (by omega)) hp (fun m6 ph6 hf6 hm6 hX6 => ?_)) (Nat.le_refl _) hX5.M rfl rfl rfl (Nat.le_of_ble_eq_true rfl) (Nat.zero_le _) (Nat.zero_le _)
      rw [mv_ho hv (by omega) (by omega)] at hX6
      have k6 := hX6.M
      have z12 : m6 12 = nI (mkW (sHo n v 3) 3) := (hm6 12 (by omega) (by omega)).trans rfl
      have hX7 := nX_m (m' := upd m6 12 (nI (mkW (sHo n v 0) 3))) hX6 (fun i hi => up_ne (by omega))
      have hY7 : mY (upd m6 12 (nI (mkW (sHo n v 0) 3))) (sHo n v 0) := mY_of hY1 (fun i q1 q2 => by
        by_cases q : i = 12
        · subst q; exact z2.symm
        · rw [up_ne q, hm6 i (by omega) q2, up_ne q])
      have hr := second _ _ _ (fr_tr (fr_tr hf1 (fm_set fr_id rfl)) (fr_tr hf6 (fm_set fr_id rfl))) hX7 hY7 hQ
      (repeat (first | (exact hr) | (refine px_st rfl rfl ?_; simp only [px_wp, px_at, px_set, px_set2, px_clr, px_ldi, px_ldl, px_lda, px_i1, px_i2, px_l1, px_l2, px_il, px_a1, px_r1, px_r2, px_ir, px_vir, px_g, px_v1, px_v2, px_gf, px_pf, px_ps, px_ar, px_nth, px_upd, px_zero, px_dfl, px_put_self, px_put_ne, px_sw, nI_add, pk_mul, true_and, and_true, Nat.reduceAdd, Nat.reduceLT, Nat.reduceEqDiff, List.length_cons, List.length_nil, true_or, or_true, List.set_set, ne_eq, not_false_eq_true, Fin.isValue, Fin.val_zero, Fin.val_one, Fin.val_two, reduceCtorEq, Option.map_some, List.length_set, Nat.zero_lt_succ, Option.toList_some, Option.toList_none, List.cons_append, List.nil_append, px_b_2, IA, LA, BA, ZA, QA, PT, DR, TL, MC, CD, CC, false_and, or_false, false_or, nar_b, nar_0, nar_1, nar_y, k6, g_others, z12, f3, p_others, md_len]) | (refine ⟨_, rfl, by omega, ?_⟩) | (refine ⟨fun h => absurd h (nI_nlt (by omega) (by omega)), fun _ => ?_⟩) | (refine ⟨fun _ => ?_, fun h => absurd h (nI_nlt (by omega) (by omega))⟩) | (refine ⟨fun h => absurd (nI_lt (by omega) (by omega)) h, fun _ => ?_⟩) | (refine ⟨fun _ => ?_, fun h => absurd (nI_lt (by omega) (by omega)) h⟩) | (refine ⟨fun h => absurd ((nI_eq (by omega) (by omega)).mp h) (by omega), fun _ => ?_⟩) | (refine ⟨fun _ => ?_, fun h => absurd ((nI_eq (by omega) (by omega)).mp h) (by omega)⟩) | (refine ⟨fun h => absurd h (by decide), fun _ => ?_⟩) | (refine ⟨fun _ => ?_, fun h => absurd h (by decide)⟩) | (refine ⟨fun h => absurd rfl h, fun _ => ?_⟩) | (refine ⟨fun _ => ?_, fun h => absurd rfl h⟩)))
    · rw [if_neg h1, List.nil_append] at hQ
      have h10 : dg n 14 1 = 0 := by omega
      rw [h10] at z3 hsum
      have hr := second m1 ph1 st hf1 hX1 hY1 hQ
      (repeat (first | (exact hr) | (refine px_st rfl rfl ?_; simp only [px_wp, px_at, px_set, px_set2, px_clr, px_ldi, px_ldl, px_lda, px_i1, px_i2, px_l1, px_l2, px_il, px_a1, px_r1, px_r2, px_ir, px_vir, px_g, px_v1, px_v2, px_gf, px_pf, px_ps, px_ar, px_nth, px_upd, px_zero, px_dfl, px_put_self, px_put_ne, px_sw, nI_add, pk_mul, true_and, and_true, Nat.reduceAdd, Nat.reduceLT, Nat.reduceEqDiff, List.length_cons, List.length_nil, true_or, or_true, List.set_set, ne_eq, not_false_eq_true, Fin.isValue, Fin.val_zero, Fin.val_one, Fin.val_two, reduceCtorEq, Option.map_some, List.length_set, Nat.zero_lt_succ, Option.toList_some, Option.toList_none, List.cons_append, List.nil_append, px_b_2, IA, LA, BA, ZA, QA, PT, DR, TL, MC, CD, CC, false_and, or_false, false_or, nar_b, nar_0, nar_1, nar_y, g100, g_othersBag, g_ownBag, g_ownerBag, z3, z7, z10, hbit]) | (refine ⟨_, rfl, by omega, ?_⟩) | (refine ⟨fun h => absurd h (nI_nlt (by omega) (by omega)), fun _ => ?_⟩) | (refine ⟨fun _ => ?_, fun h => absurd h (nI_nlt (by omega) (by omega))⟩) | (refine ⟨fun h => absurd (nI_lt (by omega) (by omega)) h, fun _ => ?_⟩) | (refine ⟨fun _ => ?_, fun h => absurd (nI_lt (by omega) (by omega)) h⟩) | (refine ⟨fun h => absurd ((nI_eq (by omega) (by omega)).mp h) (by omega), fun _ => ?_⟩) | (refine ⟨fun _ => ?_, fun h => absurd ((nI_eq (by omega) (by omega)).mp h) (by omega)⟩) | (refine ⟨fun h => absurd h (by decide), fun _ => ?_⟩) | (refine ⟨fun _ => ?_, fun h => absurd h (by decide)⟩) | (refine ⟨fun h => absurd rfl h, fun _ => ?_⟩) | (refine ⟨fun _ => ?_, fun h => absurd rfl h⟩)))
end GTE
