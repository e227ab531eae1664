/-- groupings made finer until their number stays; none: more than 24, or too long -/
def lsL (nx : Nat → Nat → Option Nat) (c : Nat) : Nat → Nat → (Nat → Nat) → Option (Nat × (Nat → Nat))
  | 0, _, _ => none
  | m + 1, gr, g => match rfL (d_al nx g) c 0 0 (fun _ => 0) (fun _ => 0) with
    | none => none
    | some r => if r.1 = gr then some (gr, r.2.2) else lsL nx c m r.1 r.2.2
def e01 (en : Nat → Bool) (i : Nat) : Nat := if en i then 1 else 0
theorem px_b_e01 (en : Nat → Bool) (i : Nat) : px_b (en i) = nI (e01 en i) := by unfold px_b e01; cases en i <;> rfl
abbrev dH (ph : List px_E) (w x y na la lea : Nat → Int32) : List px_E := (((((ph.set 38 (IA 100 w)).set 39 (IA 100 x)).set 40 (IA 24 y)).set 41 (IA 24 na)).set 42 (IA 576 la)).set 43 (IA 24 lea)
section LST
variable {G : px_G} {ph : List px_E} {d c : Nat} {Q : Option Value → List px_E → Prop} {f ea ga xa y0 n0 l0 e0 : Nat → Int32} {nx : Nat → Nat → Option Nat} {en : Nat → Bool}
set_option maxRecDepth 100000 in
set_option maxHeartbeats 4000000 in
theorem c_D_least (hc : c ≤ 100) (hc1 : 1 ≤ c) (h35 : ph[35]? = some (DR c)) (h36 : ph[36]? = some (IA 2400 f)) (h37 : ph[37]? = some (IA 100 ea)) (h38 : ph[38]? = some (IA 100 ga)) (h39 : ph[39]? = some (IA 100 xa)) (h40 : ph[40]? = some (IA 24 y0)) (h41 : ph[41]? = some (IA 24 n0)) (h42 : ph[42]? = some (IA 576 l0)) (h43 : ph[43]? = some (IA 24 e0)) (hf : RNX c f nx) (he : ∀ i, i < c → ea i = px_b (en i))
    (hQ1 : lsL nx c 25 0 (e01 en) = none → ∀ w x y, Q (some .null) (((ph.set 38 (IA 100 w)).set 39 (IA 100 x)).set 40 (IA 24 y)))
    (hQ2 : ∀ gr fi, lsL nx c 25 0 (e01 en) = some (gr, fi) → ∀ (kn : Nat) (ln : Nat → Option Nat) (le : Nat → Bool), nmS nx fi en gr 25 0 1 (va_up (fun _ => none) (fi 0) (some 0)) (fun _ => 0) (fun _ => none) (fun _ => false) = (kn, ln, le) → 1 ≤ kn → kn ≤ 24 → ∀ (w x y na la lea w1 w2 : Nat → Int32), (∀ i, i < kn * 24 → w1 i = oI (ln i)) → (∀ i, i < kn → w2 i = px_b (le i)) → Q (some (.ref ph.length)) (dH ph w x y na la lea ++ [MC kn (sL w1 (kn * 24)) (ph.length + 1) (ph.length + 2), IA (kn * 24) w1, IA kn w2])) : px_Met G mX3_least (d + 4) 3 604 [.ref 35] ph Q := by
  refine px_start kX3_least (Nat.le_of_ble_eq_true rfl) ?_
  show px_W G _ _ _ _ _ 0 0 0 [some (.ref 35), none, none, none] [] ph
  generalize hT : lsL nx c 25 0 (e01 en) = T at hQ1 hQ2
  have key : ∀ (m r gr : Nat) (g : Nat → Nat) (w x y : Nat → Int32) (x3 : Option Value), r + m = 25 → gr ≤ 24 → lsL nx c m gr g = T → RG c w g → px_W G mX3_least (d + 4) 3 604 Q 0 0 21 [some (.ref 35), some (.int (nI gr)), some (.int (nI r)), x3] [] (((ph.set 38 (IA 100 w)).set 39 (IA 100 x)).set 40 (IA 24 y)) := by
    intro m
    induction m with
    | zero =>
      intro r gr g w x y x3 hr hgr hl hg
      have hr25 : r = 25 := by omega
      subst hr25
      (repeat (first | (refine ⟨_, rfl, by omega, ?_⟩) | (refine px_st rfl rfl ?_; simp only [px_wp, px_at, px_set, px_set2, px_clr, px_ldi, px_ldl, px_lda, px_i1, px_i2, px_l1, px_l2, px_il, px_a1, px_r1, px_r2, px_ir, px_vir, px_g, px_v1, px_v2, px_gf, px_pf, px_ps, px_ar, px_nth, px_upd, px_zero, px_dfl, px_put_self, px_put_ne, px_sw, nI_add, pk_mul, true_and, and_true, Nat.reduceAdd, Nat.reduceLT, Nat.reduceEqDiff, List.length_cons, List.length_nil, true_or, or_true, List.set_set, ne_eq, not_false_eq_true, Fin.isValue, Fin.val_zero, Fin.val_one, Fin.val_two, reduceCtorEq, Option.map_some, List.length_set, Nat.zero_lt_succ, Option.toList_some, Option.toList_none, List.cons_append, List.nil_append, px_b_2, IA, LA, BA, ZA, QA, PT, DR, TL, MC, CD, CC])))
      refine ⟨fun _ => ?_, fun h => absurd (by decide) h⟩
      (repeat (first | (refine ⟨_, rfl, by omega, ?_⟩) | (refine px_st rfl rfl ?_; simp only [px_wp, px_at, px_set, px_set2, px_clr, px_ldi, px_ldl, px_lda, px_i1, px_i2, px_l1, px_l2, px_il, px_a1, px_r1, px_r2, px_ir, px_vir, px_g, px_v1, px_v2, px_gf, px_pf, px_ps, px_ar, px_nth, px_upd, px_zero, px_dfl, px_put_self, px_put_ne, px_sw, nI_add, pk_mul, true_and, and_true, Nat.reduceAdd, Nat.reduceLT, Nat.reduceEqDiff, List.length_cons, List.length_nil, true_or, or_true, List.set_set, ne_eq, not_false_eq_true, Fin.isValue, Fin.val_zero, Fin.val_one, Fin.val_two, reduceCtorEq, Option.map_some, List.length_set, Nat.zero_lt_succ, Option.toList_some, Option.toList_none, List.cons_append, List.nil_append, px_b_2, IA, LA, BA, ZA, QA, PT, DR, TL, MC, CD, CC])))
      exact px_areturn rfl rfl (Or.inl ⟨_, rfl⟩) (Or.inl rfl) (by omega) (by omega) (hQ1 hl.symm w x y)
    | succ m ih =>
      intro r gr g w x y x3 hr hgr hl hg
      unfold lsL at hl
      (repeat (first | (refine ⟨_, rfl, by omega, ?_⟩) | (refine px_st rfl rfl ?_; simp only [px_wp, px_at, px_set, px_set2, px_clr, px_ldi, px_ldl, px_lda, px_i1, px_i2, px_l1, px_l2, px_il, px_a1, px_r1, px_r2, px_ir, px_vir, px_g, px_v1, px_v2, px_gf, px_pf, px_ps, px_ar, px_nth, px_upd, px_zero, px_dfl, px_put_self, px_put_ne, px_sw, nI_add, pk_mul, true_and, and_true, Nat.reduceAdd, Nat.reduceLT, Nat.reduceEqDiff, List.length_cons, List.length_nil, true_or, or_true, List.set_set, ne_eq, not_false_eq_true, Fin.isValue, Fin.val_zero, Fin.val_one, Fin.val_two, reduceCtorEq, Option.map_some, List.length_set, Nat.zero_lt_succ, Option.toList_some, Option.toList_none, List.cons_append, List.nil_append, px_b_2, IA, LA, BA, ZA, QA, PT, DR, TL, MC, CD, CC])))
      refine ⟨fun h => absurd h (nI_nlt (by omega) (by omega)), fun _ => ?_⟩
      have e : ∀ k e', ¬ 38 = k → ¬ 39 = k → ¬ 40 = k → ph[k]? = some e' → (((ph.set 38 (IA 100 w)).set 39 (IA 100 x)).set 40 (IA 24 y))[k]? = some e' := fun k e' a1 a2 a3 a4 => (px_put_ne a3).trans ((px_put_ne a2).trans ((px_put_ne a1).trans a4))
      have e35 := e 35 _ (by decide) (by decide) (by decide) h35
      have e36 := e 36 _ (by decide) (by decide) (by decide) h36
      have e38 : (((ph.set 38 (IA 100 w)).set 39 (IA 100 x)).set 40 (IA 24 y))[38]? = some (IA 100 w) := (px_put_ne (by decide)).trans ((px_put_ne (by decide)).trans (px_put_self.trans (by rw [h38]; rfl)))
      have e39 : (((ph.set 38 (IA 100 w)).set 39 (IA 100 x)).set 40 (IA 24 y))[39]? = some (IA 100 x) := (px_put_ne (by decide)).trans (px_put_self.trans (by rw [px_put_ne (by decide), h39]; rfl))
      have e40 : (((ph.set 38 (IA 100 w)).set 39 (IA 100 x)).set 40 (IA 24 y))[40]? = some (IA 24 y) := px_put_self.trans (by rw [px_put_ne (by decide), px_put_ne (by decide), h40]; rfl)
      (repeat (first | (refine ⟨_, rfl, by omega, ?_⟩) | (refine px_st rfl rfl ?_; simp only [px_wp, px_at, px_set, px_set2, px_clr, px_ldi, px_ldl, px_lda, px_i1, px_i2, px_l1, px_l2, px_il, px_a1, px_r1, px_r2, px_ir, px_vir, px_g, px_v1, px_v2, px_gf, px_pf, px_ps, px_ar, px_nth, px_upd, px_zero, px_dfl, px_put_self, px_put_ne, px_sw, nI_add, pk_mul, true_and, and_true, Nat.reduceAdd, Nat.reduceLT, Nat.reduceEqDiff, List.length_cons, List.length_nil, true_or, or_true, List.set_set, ne_eq, not_false_eq_true, Fin.isValue, Fin.val_zero, Fin.val_one, Fin.val_two, reduceCtorEq, Option.map_some, List.length_set, Nat.zero_lt_succ, Option.toList_some, Option.toList_none, List.cons_append, List.nil_append, px_b_2, IA, LA, BA, ZA, QA, PT, DR, TL, MC, CD, CC])))
      refine px_cV rfl rfl kX3_refine rfl (c_D_refine hc e35 e36 e38 e39 e40 hf hg (fun hn x' y' => ?_) (fun n hd fi hn w' x' y' hw hn24 hhd hfi => ?_)) (Nat.le_refl _) e35 rfl rfl rfl (Nat.le_of_ble_eq_true rfl) (Nat.zero_le _) (Nat.zero_le _)
      · rw [hn] at hl
        (repeat (first | (refine ⟨_, rfl, by omega, ?_⟩) | (refine px_st rfl rfl ?_; simp only [px_wp, px_at, px_set, px_set2, px_clr, px_ldi, px_ldl, px_lda, px_i1, px_i2, px_l1, px_l2, px_il, px_a1, px_r1, px_r2, px_ir, px_vir, px_g, px_v1, px_v2, px_gf, px_pf, px_ps, px_ar, px_nth, px_upd, px_zero, px_dfl, px_put_self, px_put_ne, px_sw, nI_add, pk_mul, true_and, and_true, Nat.reduceAdd, Nat.reduceLT, Nat.reduceEqDiff, List.length_cons, List.length_nil, true_or, or_true, List.set_set, ne_eq, not_false_eq_true, Fin.isValue, Fin.val_zero, Fin.val_one, Fin.val_two, reduceCtorEq, Option.map_some, List.length_set, Nat.zero_lt_succ, Option.toList_some, Option.toList_none, List.cons_append, List.nil_append, px_b_2, IA, LA, BA, ZA, QA, PT, DR, TL, MC, CD, CC])))
        refine ⟨fun h => absurd trivial h, fun _ => ?_⟩
        (repeat (first | (refine ⟨_, rfl, by omega, ?_⟩) | (refine px_st rfl rfl ?_; simp only [px_wp, px_at, px_set, px_set2, px_clr, px_ldi, px_ldl, px_lda, px_i1, px_i2, px_l1, px_l2, px_il, px_a1, px_r1, px_r2, px_ir, px_vir, px_g, px_v1, px_v2, px_gf, px_pf, px_ps, px_ar, px_nth, px_upd, px_zero, px_dfl, px_put_self, px_put_ne, px_sw, nI_add, pk_mul, true_and, and_true, Nat.reduceAdd, Nat.reduceLT, Nat.reduceEqDiff, List.length_cons, List.length_nil, true_or, or_true, List.set_set, ne_eq, not_false_eq_true, Fin.isValue, Fin.val_zero, Fin.val_one, Fin.val_two, reduceCtorEq, Option.map_some, List.length_set, Nat.zero_lt_succ, Option.toList_some, Option.toList_none, List.cons_append, List.nil_append, px_b_2, IA, LA, BA, ZA, QA, PT, DR, TL, MC, CD, CC])))
        exact px_areturn rfl rfl (Or.inl ⟨_, rfl⟩) (Or.inl rfl) (by omega) (by omega) (hQ1 hl.symm w x' y')
      · rw [hn] at hl
        simp only at hl
        have hn3 : ¬ nI n = -3 := fun q => by
          have h1 := congrArg Int32.toInt q
          rw [nI_toInt (by omega)] at h1
          have h2 : (-3 : Int32).toInt = -3 := by decide
          omega
        have hg' : RG c w' fi := fun i hi => ⟨hw i hi, by have := hfi i hi; omega⟩
        (repeat (first | (refine ⟨_, rfl, by omega, ?_⟩) | (refine px_st rfl rfl ?_; simp only [px_wp, px_at, px_set, px_set2, px_clr, px_ldi, px_ldl, px_lda, px_i1, px_i2, px_l1, px_l2, px_il, px_a1, px_r1, px_r2, px_ir, px_vir, px_g, px_v1, px_v2, px_gf, px_pf, px_ps, px_ar, px_nth, px_upd, px_zero, px_dfl, px_put_self, px_put_ne, px_sw, nI_add, pk_mul, true_and, and_true, Nat.reduceAdd, Nat.reduceLT, Nat.reduceEqDiff, List.length_cons, List.length_nil, true_or, or_true, List.set_set, ne_eq, not_false_eq_true, Fin.isValue, Fin.val_zero, Fin.val_one, Fin.val_two, reduceCtorEq, Option.map_some, List.length_set, Nat.zero_lt_succ, Option.toList_some, Option.toList_none, List.cons_append, List.nil_append, px_b_2, IA, LA, BA, ZA, QA, PT, DR, TL, MC, CD, CC])))
        refine ⟨fun _ => ?_, fun h => absurd h hn3⟩
        (repeat (first | (refine ⟨_, rfl, by omega, ?_⟩) | (refine px_st rfl rfl ?_; simp only [px_wp, px_at, px_set, px_set2, px_clr, px_ldi, px_ldl, px_lda, px_i1, px_i2, px_l1, px_l2, px_il, px_a1, px_r1, px_r2, px_ir, px_vir, px_g, px_v1, px_v2, px_gf, px_pf, px_ps, px_ar, px_nth, px_upd, px_zero, px_dfl, px_put_self, px_put_ne, px_sw, nI_add, pk_mul, true_and, and_true, Nat.reduceAdd, Nat.reduceLT, Nat.reduceEqDiff, List.length_cons, List.length_nil, true_or, or_true, List.set_set, ne_eq, not_false_eq_true, Fin.isValue, Fin.val_zero, Fin.val_one, Fin.val_two, reduceCtorEq, Option.map_some, List.length_set, Nat.zero_lt_succ, Option.toList_some, Option.toList_none, List.cons_append, List.nil_append, px_b_2, IA, LA, BA, ZA, QA, PT, DR, TL, MC, CD, CC])))
        refine ⟨fun h => ?_, fun h => ?_⟩
        · have hne : ¬ n = gr := fun q => h (by rw [q])
          rw [if_neg hne] at hl
          (repeat (first | (exact ih (r + 1) n fi w' x' y' _ (by omega) hn24 hl hg') | (refine ⟨_, rfl, by omega, ?_⟩) | (refine px_st rfl rfl ?_; simp only [px_wp, px_at, px_set, px_set2, px_clr, px_ldi, px_ldl, px_lda, px_i1, px_i2, px_l1, px_l2, px_il, px_a1, px_r1, px_r2, px_ir, px_vir, px_g, px_v1, px_v2, px_gf, px_pf, px_ps, px_ar, px_nth, px_upd, px_zero, px_dfl, px_put_self, px_put_ne, px_sw, nI_add, pk_mul, true_and, and_true, Nat.reduceAdd, Nat.reduceLT, Nat.reduceEqDiff, List.length_cons, List.length_nil, true_or, or_true, List.set_set, ne_eq, not_false_eq_true, Fin.isValue, Fin.val_zero, Fin.val_one, Fin.val_two, reduceCtorEq, Option.map_some, List.length_set, Nat.zero_lt_succ, Option.toList_some, Option.toList_none, List.cons_append, List.nil_append, px_b_2, IA, LA, BA, ZA, QA, PT, DR, TL, MC, CD, CC])))
        · have hne : n = gr := (nI_eq (by omega) (by omega)).mp h
          subst hne
          rw [if_pos rfl] at hl
          (repeat (first | (refine ⟨_, rfl, by omega, ?_⟩) | (refine px_st rfl rfl ?_; simp only [px_wp, px_at, px_set, px_set2, px_clr, px_ldi, px_ldl, px_lda, px_i1, px_i2, px_l1, px_l2, px_il, px_a1, px_r1, px_r2, px_ir, px_vir, px_g, px_v1, px_v2, px_gf, px_pf, px_ps, px_ar, px_nth, px_upd, px_zero, px_dfl, px_put_self, px_put_ne, px_sw, nI_add, pk_mul, true_and, and_true, Nat.reduceAdd, Nat.reduceLT, Nat.reduceEqDiff, List.length_cons, List.length_nil, true_or, or_true, List.set_set, ne_eq, not_false_eq_true, Fin.isValue, Fin.val_zero, Fin.val_one, Fin.val_two, reduceCtorEq, Option.map_some, List.length_set, Nat.zero_lt_succ, Option.toList_some, Option.toList_none, List.cons_append, List.nil_append, px_b_2, IA, LA, BA, ZA, QA, PT, DR, TL, MC, CD, CC])))
          have u : ∀ k e', ¬ 38 = k → ¬ 39 = k → ¬ 40 = k → ph[k]? = some e' → (((ph.set 38 (IA 100 w')).set 39 (IA 100 x')).set 40 (IA 24 y'))[k]? = some e' := fun k e' a1 a2 a3 a4 => (px_put_ne a3).trans ((px_put_ne a2).trans ((px_put_ne a1).trans a4))
          have u35 := u 35 _ (by decide) (by decide) (by decide) h35
          have u38 : (((ph.set 38 (IA 100 w')).set 39 (IA 100 x')).set 40 (IA 24 y'))[38]? = some (IA 100 w') := (px_put_ne (by decide)).trans ((px_put_ne (by decide)).trans (px_put_self.trans (by rw [h38]; rfl)))
          have u40 : (((ph.set 38 (IA 100 w')).set 39 (IA 100 x')).set 40 (IA 24 y'))[40]? = some (IA 24 y') := px_put_self.trans (by rw [px_put_ne (by decide), px_put_ne (by decide), h40]; rfl)
          refine px_cVA rfl rfl kX3_numbered rfl (c_D_numbered (d := d) hc hc1 hn24 u35 (u 36 _ (by decide) (by decide) (by decide) h36) (u 37 _ (by decide) (by decide) (by decide) h37) u38 u40 (u 41 _ (by decide) (by decide) (by decide) h41) (u 42 _ (by decide) (by decide) (by decide) h42) (u 43 _ (by decide) (by decide) (by decide) h43) hf hg' hfi he (fun kn ln le hnm hk1 hk24 y2 na la lea w1 w2 hw1 hw2 => ?_)) (by omega) u35 rfl rfl rfl (Nat.le_of_ble_eq_true rfl) (by omega) (by omega)
          have hq := hQ2 n fi hl.symm kn ln le hnm hk1 hk24 w' x' y2 na la lea w1 w2 hw1 hw2
          have hlen : (((ph.set 38 (IA 100 w')).set 39 (IA 100 x')).set 40 (IA 24 y')).length = ph.length := by simp
          rw [hlen]
          have hh : nH (((ph.set 38 (IA 100 w')).set 39 (IA 100 x')).set 40 (IA 24 y')) y2 na la lea = dH ph w' x' y2 na la lea := by
            unfold nH dH
            rw [List.set_set]
          rw [hh]
          exact px_areturn rfl rfl (Or.inl ⟨_, rfl⟩) (Or.inr ⟨_, rfl⟩) (by omega) (by omega) hq
  have start := key 25 0 0 (e01 en) (va_cpy ea ga 0 0 c) xa y0 none (by omega) (by omega) hT (fun i hi => by
    rw [pk_cpy_in (Nat.zero_le _) (by omega), Nat.zero_add, Nat.sub_zero, he i hi, px_b_e01]
    exact ⟨rfl, by unfold e01; split <;> omega⟩)
  rw [px_put_id (e := IA 100 xa) ((px_put_ne (by decide)).trans h39), px_put_id (e := IA 24 y0) ((px_put_ne (by decide)).trans h40)] at start
  (repeat (first | (refine ⟨_, rfl, by omega, ?_⟩) | (refine px_st rfl rfl ?_; simp only [px_wp, px_at, px_set, px_set2, px_clr, px_ldi, px_ldl, px_lda, px_i1, px_i2, px_l1, px_l2, px_il, px_a1, px_r1, px_r2, px_ir, px_vir, px_g, px_v1, px_v2, px_gf, px_pf, px_ps, px_ar, px_nth, px_upd, px_zero, px_dfl, px_put_self, px_put_ne, px_sw, nI_add, pk_mul, true_and, and_true, Nat.reduceAdd, Nat.reduceLT, Nat.reduceEqDiff, List.length_cons, List.length_nil, true_or, or_true, List.set_set, ne_eq, not_false_eq_true, Fin.isValue, Fin.val_zero, Fin.val_one, Fin.val_two, reduceCtorEq, Option.map_some, List.length_set, Nat.zero_lt_succ, Option.toList_some, Option.toList_none, List.cons_append, List.nil_append, px_b_2, IA, LA, BA, ZA, QA, PT, DR, TL, MC, CD, CC, h35])))
  refine px_copyi (sp := 0) (dp := 0) (N := c) rfl (by omega) h37 h38 (by omega) (by omega) (Nat.le_of_ble_eq_true rfl) ?_
  (repeat (first | (exact start) | (refine ⟨_, rfl, by omega, ?_⟩) | (refine px_st rfl rfl ?_; simp only [px_wp, px_at, px_set, px_set2, px_clr, px_ldi, px_ldl, px_lda, px_i1, px_i2, px_l1, px_l2, px_il, px_a1, px_r1, px_r2, px_ir, px_vir, px_g, px_v1, px_v2, px_gf, px_pf, px_ps, px_ar, px_nth, px_upd, px_zero, px_dfl, px_put_self, px_put_ne, px_sw, nI_add, pk_mul, true_and, and_true, Nat.reduceAdd, Nat.reduceLT, Nat.reduceEqDiff, List.length_cons, List.length_nil, true_or, or_true, List.set_set, ne_eq, not_false_eq_true, Fin.isValue, Fin.val_zero, Fin.val_one, Fin.val_two, reduceCtorEq, Option.map_some, List.length_set, Nat.zero_lt_succ, Option.toList_some, Option.toList_none, List.cons_append, List.nil_append, px_b_2, IA, LA, BA, ZA, QA, PT, DR, TL, MC, CD, CC])))
end LST
