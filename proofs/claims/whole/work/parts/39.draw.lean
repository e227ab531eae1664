theorem opk_0 {a b c : Int32} : opOk (nI 0) a b c = (b_below a 6 && b_below b 4) := rfl
theorem opk_1 {a b c : Int32} : opOk (nI 1) a b c = (b_below a 6 && b_below b 4 && b_below c 6) := rfl
theorem opk_2 {a b c : Int32} : opOk (nI 2) a b c = (b_below a 6 && b_below b 6) := rfl
theorem opk_3 {a b c : Int32} : opOk (nI 3) a b c = (b_below a 6) := rfl
theorem opk_4 {a b c : Int32} : opOk (nI 4) a b c = (b_below a 6 && b_below b 12) := rfl
theorem opk_5 {a b c : Int32} : opOk (nI 5) a b c = (b_below a 33) := rfl
theorem opk_6 {a b c : Int32} : opOk (nI 6) a b c = (b_below a 33) := rfl
theorem opk_7 {a b c : Int32} : opOk (nI 7) a b c = (b_below a 6 && b_below b 33) := rfl
theorem opk_8 {a b c : Int32} : opOk (nI 8) a b c = (b_below a 6) := rfl
theorem opk_9 {a b c : Int32} : opOk (nI 9) a b c = (b_below a 6) := rfl
theorem bkS_pu {kind : Nat} {s : DS} {o : Option Nat} : bkS kind (puS s o) = bkS kind s := by
  obtain ⟨x, ⟨ob, kd, ow, la, st, br⟩, ⟨va, bn, bg⟩, ⟨t0, t1, t2, t3⟩⟩ := s
  cases o with
  | none => rfl
  | some y =>
    unfold puS
    simp only
    split <;> rfl
theorem bkS_x {kind : Nat} (y x : Int32) (obs : OB) (v v' : VB) (t t' : TY) : bkS kind (y, obs, v, t) = bkS kind (x, obs, v', t') := by
  unfold bkS
  simp only
theorem bkS_ge {kind : Nat} {s : DS} {v : Nat} : bkS kind (geS s v) = bkS kind s := by
  obtain ⟨x, obs, ⟨va, bn, bg⟩, t⟩ := s
  unfold geS
  simp only
  split
  · exact bkS_x _ _ _ _ _ _ _
  · split
    · exact bkS_x _ _ _ _ _ _ _
    · exact bkS_x _ _ _ _ _ _ _
theorem nI_cl {j : Nat} (h : j < 33) : (nI j).toNatClampNeg = j := nI_clamp (by omega)
/-- the variables change -/
theorem cD_va {kind bk v : Nat} {x : Int32} {obs : OB} {va : Nat → Option Nat} {bb : Nat × (Nat → Nat)} {t : TY} {w : Option Nat} {ph : List px_E} {va' : Nat → Int32} (hv : v < 6) (h : cD kind bk (x, obs, (va, bb), t) ph) (h94 : ph[94]? = some (IA 6 va')) : cD kind bk (x, obs, (va_up va v w, bb), t) (ph.set 94 (IA 6 (upd va' v (oI w)))) := by
  obtain ⟨ob, kd, ow, la, st, br⟩ := obs
  obtain ⟨bn, bg⟩ := bb
  obtain ⟨t0, t1, t2, t3⟩ := t
  obtain ⟨va2, kd', ow', st', la', bg', f0, f1, f2, f3, h88, h89, ⟨g94, h95, h96, h97, h98, h99⟩, ⟨h90, h91, h92, h93⟩, v1, v2⟩ := h
  rw [h94] at g94
  cases g94
  refine ⟨upd va' v (oI w), kd', ow', st', la', bg', f0, f1, f2, f3, ?_, ?_, ⟨?_, ?_, ?_, ?_, ?_, ?_⟩, ⟨?_, ?_, ?_, ?_⟩, fun i hi => ?_, v2⟩
  rotate_right 1
  · by_cases hiv : i = v
    · subst hiv; rw [pk_us, va_up_s]
    · rw [va_up_n hiv]; unfold upd; rw [if_neg hiv]; exact v1 i hi
  all_goals simp only [px_put_self, px_put_ne, h88, h89, h90, h91, h92, h93, h94, h95, h96, h97, h98, h99, Nat.reduceEqDiff, not_false_eq_true, Option.map_some]
theorem cD_94 {kind bk : Nat} {s : DS} {ph : List px_E} (h : cD kind bk s ph) : ∃ va', ph[94]? = some (IA 6 va') ∧ ∀ i, i < 6 → va' i = oI (s.2.2.1.1 i) := by
  obtain ⟨x, ⟨ob, kd, ow, la, st, br⟩, ⟨va, bn, bg⟩, ⟨t0, t1, t2, t3⟩⟩ := s
  obtain ⟨va', kd', ow', st', la', bg', f0, f1, f2, f3, h88, h89, ⟨h94, -⟩, -, v1, -⟩ := h
  exact ⟨va', h94, v1⟩
theorem cD_88 {kind bk : Nat} {s : DS} {ph : List px_E} (h : cD kind bk s ph) : ph[88]? = some (DN (nI kind) s.1 (nI bk) (nI s.2.1.1) (nI s.2.2.1.2.1)) := by
  obtain ⟨x, ⟨ob, kd, ow, la, st, br⟩, ⟨va, bn, bg⟩, ⟨t0, t1, t2, t3⟩⟩ := s
  obtain ⟨va', kd', ow', st', la', bg', f0, f1, f2, f3, h88, -⟩ := h
  exact h88
section DRY
variable {G : px_G} {ph : List px_E} {d : Nat} {Q : Option Value → List px_E → Prop} {kind bk sn n : Nat} {nx : Nat → Nat → Option Nat} {en : Nat → Bool}
set_option maxRecDepth 100000 in
set_option maxHeartbeats 4000000 in
theorem c_W_moveObjects {s : DS} {j : Nat} {a b c : Int32} {z : Bool} {p : Nat} (hn : n < 200) (hw : wD sn n s) (h : cD kind bk s ph) (hj : j = 2 ∨ j = 3 ∨ j = 8 ∨ j = 9 ∨ j = 10) (hop : opOk (nI j) a b c = true) (hQ : ∀ ph', fr FC ph ph' → cD kind bk (dSt nx z j a b c p s).1 ph' → bkS kind (dSt nx z j a b c p s).1 = bkS kind s → Q none ph') : px_Met G mX4_moveObjects (d + 2) 0 0 [.ref 88, .int (nI j), .int a, .int b] ph Q := by
  obtain ⟨va', h94, v1⟩ := cD_94 h
  have h88 := cD_88 h
  refine px_start kX4_moveObjects (Nat.le_of_ble_eq_true rfl) ?_
  show px_W G _ _ _ _ _ 0 0 0 [some (.ref 88), some (.int (nI j)), some (.int a), some (.int b)] [] ph
  rcases hj with rfl | rfl | rfl | rfl | rfl
  · have e : (b_below a 6 && b_below b 6) = true := hop
    rw [Bool.and_eq_true] at e
    obtain ⟨v, hv, rfl⟩ := b_below_e (by omega) e.1
    obtain ⟨u, hu, rfl⟩ := b_below_e (by omega) e.2
    have hvu := v1 u hu
    have hd : (dSt nx z 2 (nI v) (nI u) c p s).1 = (s.1, s.2.1, (va_up s.2.2.1.1 v (s.2.2.1.1 u), s.2.2.1.2), s.2.2.2) := by
      show (s.1, s.2.1, (va_up s.2.2.1.1 (nI v).toNatClampNeg (s.2.2.1.1 (nI u).toNatClampNeg), s.2.2.1.2), s.2.2.2) = _
      rw [nI_cl (by omega), nI_cl (by omega)]
    rw [hd] at hQ
    (repeat (first | (refine px_st rfl rfl ?_; simp only [px_wp, px_at, px_set, px_set2, px_clr, px_ldi, px_ldl, px_lda, px_i1, px_i2, px_l1, px_l2, px_il, px_a1, px_r1, px_r2, px_ir, px_vir, px_g, px_v1, px_v2, px_gf, px_pf, px_ps, px_ar, px_nth, px_upd, px_zero, px_dfl, px_put_self, px_put_ne, px_sw, nI_add, pk_mul, true_and, and_true, Nat.reduceAdd, Nat.reduceLT, Nat.reduceEqDiff, List.length_cons, List.length_nil, true_or, or_true, List.set_set, ne_eq, not_false_eq_true, Fin.isValue, Fin.val_zero, Fin.val_one, Fin.val_two, reduceCtorEq, Option.map_some, List.length_set, Nat.zero_lt_succ, Option.toList_some, Option.toList_none, List.cons_append, List.nil_append, px_b_2, IA, LA, BA, ZA, QA, PT, DR, TL, MC, CD, CC, false_and, or_false, false_or, nar_b, nar_0, nar_1, nar_y, h88, h94, hvu]) | (refine ⟨_, rfl, by omega, ?_⟩) | (refine ⟨fun h => absurd h (nI_nlt (by omega) (by omega)), fun _ => ?_⟩) | (refine ⟨fun _ => ?_, fun h => absurd h (nI_nlt (by omega) (by omega))⟩) | (refine ⟨fun h => absurd (nI_lt (by omega) (by omega)) h, fun _ => ?_⟩) | (refine ⟨fun _ => ?_, fun h => absurd (nI_lt (by omega) (by omega)) h⟩) | (refine ⟨fun h => absurd ((nI_eq (by omega) (by omega)).mp h) (by omega), fun _ => ?_⟩) | (refine ⟨fun _ => ?_, fun h => absurd ((nI_eq (by omega) (by omega)).mp h) (by omega)⟩) | (refine ⟨fun h => absurd h (by decide), fun _ => ?_⟩) | (refine ⟨fun _ => ?_, fun h => absurd h (by decide)⟩) | (refine ⟨fun h => absurd rfl h, fun _ => ?_⟩) | (refine ⟨fun _ => ?_, fun h => absurd rfl h⟩)))
    exact px_return rfl rfl (Nat.le_refl _) (Nat.le_refl _) (hQ _ (fc_set fr_id rfl) (cD_va hv h h94) rfl)
  · have e : b_below a 6 = true := hop
    obtain ⟨v, hv, rfl⟩ := b_below_e (by omega) e
    have hd : (dSt nx z 3 (nI v) b c p s).1 = (s.1, s.2.1, (va_up s.2.2.1.1 v none, s.2.2.1.2), s.2.2.2) := by
      show (s.1, s.2.1, (va_up s.2.2.1.1 (nI v).toNatClampNeg none, s.2.2.1.2), s.2.2.2) = _
      rw [nI_cl (by omega)]
    rw [hd] at hQ
    (repeat (first | (refine px_st rfl rfl ?_; simp only [px_wp, px_at, px_set, px_set2, px_clr, px_ldi, px_ldl, px_lda, px_i1, px_i2, px_l1, px_l2, px_il, px_a1, px_r1, px_r2, px_ir, px_vir, px_g, px_v1, px_v2, px_gf, px_pf, px_ps, px_ar, px_nth, px_upd, px_zero, px_dfl, px_put_self, px_put_ne, px_sw, nI_add, pk_mul, true_and, and_true, Nat.reduceAdd, Nat.reduceLT, Nat.reduceEqDiff, List.length_cons, List.length_nil, true_or, or_true, List.set_set, ne_eq, not_false_eq_true, Fin.isValue, Fin.val_zero, Fin.val_one, Fin.val_two, reduceCtorEq, Option.map_some, List.length_set, Nat.zero_lt_succ, Option.toList_some, Option.toList_none, List.cons_append, List.nil_append, px_b_2, IA, LA, BA, ZA, QA, PT, DR, TL, MC, CD, CC, false_and, or_false, false_or, nar_b, nar_0, nar_1, nar_y, h88, h94]) | (refine ⟨_, rfl, by omega, ?_⟩) | (refine ⟨fun h => absurd h (nI_nlt (by omega) (by omega)), fun _ => ?_⟩) | (refine ⟨fun _ => ?_, fun h => absurd h (nI_nlt (by omega) (by omega))⟩) | (refine ⟨fun h => absurd (nI_lt (by omega) (by omega)) h, fun _ => ?_⟩) | (refine ⟨fun _ => ?_, fun h => absurd (nI_lt (by omega) (by omega)) h⟩) | (refine ⟨fun h => absurd ((nI_eq (by omega) (by omega)).mp h) (by omega), fun _ => ?_⟩) | (refine ⟨fun _ => ?_, fun h => absurd ((nI_eq (by omega) (by omega)).mp h) (by omega)⟩) | (refine ⟨fun h => absurd h (by decide), fun _ => ?_⟩) | (refine ⟨fun _ => ?_, fun h => absurd h (by decide)⟩) | (refine ⟨fun h => absurd rfl h, fun _ => ?_⟩) | (refine ⟨fun _ => ?_, fun h => absurd rfl h⟩)))
    exact px_return rfl rfl (Nat.le_refl _) (Nat.le_refl _) (hQ _ (fc_set fr_id rfl) (cD_va (w := none) hv h h94) rfl)
  · have e : b_below a 6 = true := hop
    obtain ⟨v, hv, rfl⟩ := b_below_e (by omega) e
    have hd : (dSt nx z 8 (nI v) b c p s).1 = puS s (s.2.2.1.1 v) := by
      show puS s (s.2.2.1.1 (nI v).toNatClampNeg) = _
      rw [nI_cl (by omega)]
    rw [hd] at hQ
    have hvv := v1 v hv
    (repeat (first | (refine px_st rfl rfl ?_; simp only [px_wp, px_at, px_set, px_set2, px_clr, px_ldi, px_ldl, px_lda, px_i1, px_i2, px_l1, px_l2, px_il, px_a1, px_r1, px_r2, px_ir, px_vir, px_g, px_v1, px_v2, px_gf, px_pf, px_ps, px_ar, px_nth, px_upd, px_zero, px_dfl, px_put_self, px_put_ne, px_sw, nI_add, pk_mul, true_and, and_true, Nat.reduceAdd, Nat.reduceLT, Nat.reduceEqDiff, List.length_cons, List.length_nil, true_or, or_true, List.set_set, ne_eq, not_false_eq_true, Fin.isValue, Fin.val_zero, Fin.val_one, Fin.val_two, reduceCtorEq, Option.map_some, List.length_set, Nat.zero_lt_succ, Option.toList_some, Option.toList_none, List.cons_append, List.nil_append, px_b_2, IA, LA, BA, ZA, QA, PT, DR, TL, MC, CD, CC, false_and, or_false, false_or, nar_b, nar_0, nar_1, nar_y, h88, h94]) | (refine ⟨_, rfl, by omega, ?_⟩) | (refine ⟨fun h => absurd h (nI_nlt (by omega) (by omega)), fun _ => ?_⟩) | (refine ⟨fun _ => ?_, fun h => absurd h (nI_nlt (by omega) (by omega))⟩) | (refine ⟨fun h => absurd (nI_lt (by omega) (by omega)) h, fun _ => ?_⟩) | (refine ⟨fun _ => ?_, fun h => absurd (nI_lt (by omega) (by omega)) h⟩) | (refine ⟨fun h => absurd ((nI_eq (by omega) (by omega)).mp h) (by omega), fun _ => ?_⟩) | (refine ⟨fun _ => ?_, fun h => absurd ((nI_eq (by omega) (by omega)).mp h) (by omega)⟩) | (refine ⟨fun h => absurd h (by decide), fun _ => ?_⟩) | (refine ⟨fun _ => ?_, fun h => absurd h (by decide)⟩) | (refine ⟨fun h => absurd rfl h, fun _ => ?_⟩) | (refine ⟨fun _ => ?_, fun h => absurd rfl h⟩)))
    rw [hvv]
    refine px_cV rfl rfl kX4_putIntoBag rfl (c_W_putIntoBag hn hw (fun y hy => ?_) h (fun ph' hf' hc' => ?_)) (Nat.le_refl _) h88 rfl rfl rfl (Nat.le_of_ble_eq_true rfl) (Nat.zero_le _) (Nat.zero_le _)
    · obtain ⟨x, ⟨ob, kd, ow, la, st, br⟩, ⟨va, bn, bg⟩, ⟨t0, t1, t2, t3⟩⟩ := s
      exact hw.2.2.2.1 v hv y hy
    · (repeat (first | (refine px_st rfl rfl ?_; simp only [px_wp, px_at, px_set, px_set2, px_clr, px_ldi, px_ldl, px_lda, px_i1, px_i2, px_l1, px_l2, px_il, px_a1, px_r1, px_r2, px_ir, px_vir, px_g, px_v1, px_v2, px_gf, px_pf, px_ps, px_ar, px_nth, px_upd, px_zero, px_dfl, px_put_self, px_put_ne, px_sw, nI_add, pk_mul, true_and, and_true, Nat.reduceAdd, Nat.reduceLT, Nat.reduceEqDiff, List.length_cons, List.length_nil, true_or, or_true, List.set_set, ne_eq, not_false_eq_true, Fin.isValue, Fin.val_zero, Fin.val_one, Fin.val_two, reduceCtorEq, Option.map_some, List.length_set, Nat.zero_lt_succ, Option.toList_some, Option.toList_none, List.cons_append, List.nil_append, px_b_2, IA, LA, BA, ZA, QA, PT, DR, TL, MC, CD, CC, false_and, or_false, false_or, nar_b, nar_0, nar_1, nar_y]) | (refine ⟨_, rfl, by omega, ?_⟩) | (refine ⟨fun h => absurd h (nI_nlt (by omega) (by omega)), fun _ => ?_⟩) | (refine ⟨fun _ => ?_, fun h => absurd h (nI_nlt (by omega) (by omega))⟩) | (refine ⟨fun h => absurd (nI_lt (by omega) (by omega)) h, fun _ => ?_⟩) | (refine ⟨fun _ => ?_, fun h => absurd (nI_lt (by omega) (by omega)) h⟩) | (refine ⟨fun h => absurd ((nI_eq (by omega) (by omega)).mp h) (by omega), fun _ => ?_⟩) | (refine ⟨fun _ => ?_, fun h => absurd ((nI_eq (by omega) (by omega)).mp h) (by omega)⟩) | (refine ⟨fun h => absurd h (by decide), fun _ => ?_⟩) | (refine ⟨fun _ => ?_, fun h => absurd h (by decide)⟩) | (refine ⟨fun h => absurd rfl h, fun _ => ?_⟩) | (refine ⟨fun _ => ?_, fun h => absurd rfl h⟩)))
      exact px_return rfl rfl (Nat.le_refl _) (Nat.le_refl _) (hQ ph' hf' hc' bkS_pu)
  · have e : b_below a 6 = true := hop
    obtain ⟨v, hv, rfl⟩ := b_below_e (by omega) e
    have hd : (dSt nx z 9 (nI v) b c p s).1 = geS s v := by
      show geS s (nI v).toNatClampNeg = _
      rw [nI_cl (by omega)]
    rw [hd] at hQ
    (repeat (first | (refine px_st rfl rfl ?_; simp only [px_wp, px_at, px_set, px_set2, px_clr, px_ldi, px_ldl, px_lda, px_i1, px_i2, px_l1, px_l2, px_il, px_a1, px_r1, px_r2, px_ir, px_vir, px_g, px_v1, px_v2, px_gf, px_pf, px_ps, px_ar, px_nth, px_upd, px_zero, px_dfl, px_put_self, px_put_ne, px_sw, nI_add, pk_mul, true_and, and_true, Nat.reduceAdd, Nat.reduceLT, Nat.reduceEqDiff, List.length_cons, List.length_nil, true_or, or_true, List.set_set, ne_eq, not_false_eq_true, Fin.isValue, Fin.val_zero, Fin.val_one, Fin.val_two, reduceCtorEq, Option.map_some, List.length_set, Nat.zero_lt_succ, Option.toList_some, Option.toList_none, List.cons_append, List.nil_append, px_b_2, IA, LA, BA, ZA, QA, PT, DR, TL, MC, CD, CC, false_and, or_false, false_or, nar_b, nar_0, nar_1, nar_y, h88, h94]) | (refine ⟨_, rfl, by omega, ?_⟩) | (refine ⟨fun h => absurd h (nI_nlt (by omega) (by omega)), fun _ => ?_⟩) | (refine ⟨fun _ => ?_, fun h => absurd h (nI_nlt (by omega) (by omega))⟩) | (refine ⟨fun h => absurd (nI_lt (by omega) (by omega)) h, fun _ => ?_⟩) | (refine ⟨fun _ => ?_, fun h => absurd (nI_lt (by omega) (by omega)) h⟩) | (refine ⟨fun h => absurd ((nI_eq (by omega) (by omega)).mp h) (by omega), fun _ => ?_⟩) | (refine ⟨fun _ => ?_, fun h => absurd ((nI_eq (by omega) (by omega)).mp h) (by omega)⟩) | (refine ⟨fun h => absurd h (by decide), fun _ => ?_⟩) | (refine ⟨fun _ => ?_, fun h => absurd h (by decide)⟩) | (refine ⟨fun h => absurd rfl h, fun _ => ?_⟩) | (refine ⟨fun _ => ?_, fun h => absurd rfl h⟩)))
    refine px_cV rfl rfl kX4_drawFromBag rfl (c_W_drawFromBag (d := d) (by omega) hw h (fun y w hge hwl ph' hf' hc' => ?_)) (Nat.le_refl _) h88 rfl rfl rfl (Nat.le_of_ble_eq_true rfl) (Nat.zero_le _) (Nat.zero_le _)
    obtain ⟨va2, k94, -⟩ := cD_94 hc'
    (repeat (first | (refine px_st rfl rfl ?_; simp only [px_wp, px_at, px_set, px_set2, px_clr, px_ldi, px_ldl, px_lda, px_i1, px_i2, px_l1, px_l2, px_il, px_a1, px_r1, px_r2, px_ir, px_vir, px_g, px_v1, px_v2, px_gf, px_pf, px_ps, px_ar, px_nth, px_upd, px_zero, px_dfl, px_put_self, px_put_ne, px_sw, nI_add, pk_mul, true_and, and_true, Nat.reduceAdd, Nat.reduceLT, Nat.reduceEqDiff, List.length_cons, List.length_nil, true_or, or_true, List.set_set, ne_eq, not_false_eq_true, Fin.isValue, Fin.val_zero, Fin.val_one, Fin.val_two, reduceCtorEq, Option.map_some, List.length_set, Nat.zero_lt_succ, Option.toList_some, Option.toList_none, List.cons_append, List.nil_append, px_b_2, IA, LA, BA, ZA, QA, PT, DR, TL, MC, CD, CC, false_and, or_false, false_or, nar_b, nar_0, nar_1, nar_y, k94]) | (refine ⟨_, rfl, by omega, ?_⟩) | (refine ⟨fun h => absurd h (nI_nlt (by omega) (by omega)), fun _ => ?_⟩) | (refine ⟨fun _ => ?_, fun h => absurd h (nI_nlt (by omega) (by omega))⟩) | (refine ⟨fun h => absurd (nI_lt (by omega) (by omega)) h, fun _ => ?_⟩) | (refine ⟨fun _ => ?_, fun h => absurd (nI_lt (by omega) (by omega)) h⟩) | (refine ⟨fun h => absurd ((nI_eq (by omega) (by omega)).mp h) (by omega), fun _ => ?_⟩) | (refine ⟨fun _ => ?_, fun h => absurd ((nI_eq (by omega) (by omega)).mp h) (by omega)⟩) | (refine ⟨fun h => absurd h (by decide), fun _ => ?_⟩) | (refine ⟨fun _ => ?_, fun h => absurd h (by decide)⟩) | (refine ⟨fun h => absurd rfl h, fun _ => ?_⟩) | (refine ⟨fun _ => ?_, fun h => absurd rfl h⟩)))
    have hb := bkS_ge (kind := kind) (s := s) (v := v)
    rw [hge v] at hQ hb
    exact px_return rfl rfl (Nat.le_refl _) (Nat.le_refl _) (hQ _ (fr_tr hf' (fc_set fr_id rfl)) (cD_va hv hc' k94) hb)
  · have hd : (dSt nx z 10 a b c p s).1 = (s.1, s.2.1, (s.2.2.1.1, 0, s.2.2.1.2.2), s.2.2.2) := rfl
    rw [hd] at hQ
    obtain ⟨x, ⟨ob, kd, ow, la, st, br⟩, ⟨va, bn, bg⟩, ⟨t0, t1, t2, t3⟩⟩ := s
    obtain ⟨va', kd', ow', st', la', bg', f0, f1, f2, f3, h88, h89, ⟨h94, h95, h96, h97, h98, h99⟩, ⟨h90, h91, h92, h93⟩, v1, v2, v3, v4⟩ := h
    (repeat (first | (refine px_st rfl rfl ?_; simp only [px_wp, px_at, px_set, px_set2, px_clr, px_ldi, px_ldl, px_lda, px_i1, px_i2, px_l1, px_l2, px_il, px_a1, px_r1, px_r2, px_ir, px_vir, px_g, px_v1, px_v2, px_gf, px_pf, px_ps, px_ar, px_nth, px_upd, px_zero, px_dfl, px_put_self, px_put_ne, px_sw, nI_add, pk_mul, true_and, and_true, Nat.reduceAdd, Nat.reduceLT, Nat.reduceEqDiff, List.length_cons, List.length_nil, true_or, or_true, List.set_set, ne_eq, not_false_eq_true, Fin.isValue, Fin.val_zero, Fin.val_one, Fin.val_two, reduceCtorEq, Option.map_some, List.length_set, Nat.zero_lt_succ, Option.toList_some, Option.toList_none, List.cons_append, List.nil_append, px_b_2, IA, LA, BA, ZA, QA, PT, DR, TL, MC, CD, CC, false_and, or_false, false_or, nar_b, nar_0, nar_1, nar_y, h88]) | (refine ⟨_, rfl, by omega, ?_⟩) | (refine ⟨fun h => absurd h (nI_nlt (by omega) (by omega)), fun _ => ?_⟩) | (refine ⟨fun _ => ?_, fun h => absurd h (nI_nlt (by omega) (by omega))⟩) | (refine ⟨fun h => absurd (nI_lt (by omega) (by omega)) h, fun _ => ?_⟩) | (refine ⟨fun _ => ?_, fun h => absurd (nI_lt (by omega) (by omega)) h⟩) | (refine ⟨fun h => absurd ((nI_eq (by omega) (by omega)).mp h) (by omega), fun _ => ?_⟩) | (refine ⟨fun _ => ?_, fun h => absurd ((nI_eq (by omega) (by omega)).mp h) (by omega)⟩) | (refine ⟨fun h => absurd h (by decide), fun _ => ?_⟩) | (refine ⟨fun _ => ?_, fun h => absurd h (by decide)⟩) | (refine ⟨fun h => absurd rfl h, fun _ => ?_⟩) | (refine ⟨fun _ => ?_, fun h => absurd rfl h⟩)))
    refine px_return rfl rfl (Nat.le_refl _) (Nat.le_refl _) (hQ _ (fc_set fr_id rfl) ⟨va', kd', ow', st', la', bg', f0, f1, f2, f3, ?_, ?_, ⟨?_, ?_, ?_, ?_, ?_, ?_⟩, ⟨?_, ?_, ?_, ?_⟩, v1, v2, fun i hi => absurd hi (by omega), v4⟩ rfl)
    all_goals simp only [px_put_self, px_put_ne, h88, h89, h90, h91, h92, h93, h94, h95, h96, h97, h98, h99, Nat.reduceEqDiff, not_false_eq_true, Option.map_some]
/-- the code of a method as the class has it -/
def cCd (ph : List px_E) (oc cn : Nat) (f g : Nat → Int32) : Prop := (75 ≤ oc ∧ oc < 86) ∧ cn ≤ 32 ∧ ph[oc]? = some (CD cn (oc + 1) (oc + 2)) ∧ ph[oc + 1]? = some (IA 32 f) ∧ ph[oc + 2]? = some (IA 96 g) ∧ ∀ j, j < cn → opOk (f j) (g (j * 3)) (g (j * 3 + 1)) (g (j * 3 + 2)) = true
theorem cCd.fr {ph ph' : List px_E} {oc cn : Nat} {f g : Nat → Int32} {P : Nat → px_E → Prop} (hf : fr P ph ph') (hP : ∀ k e, grp k = 7 → P k e) (h : cCd ph oc cn f g) : cCd ph' oc cn f g := by
  obtain ⟨h1, h2, h3, h4, h5, h6⟩ := h
  exact ⟨h1, h2, hf _ _ (hP _ _ (grp_cd (by omega) (by omega))) h3, hf _ _ (hP _ _ (grp_cd (by omega) (by omega))) h4, hf _ _ (hP _ _ (grp_cd (by omega) (by omega))) h5, h6⟩
set_option maxRecDepth 100000 in
set_option maxHeartbeats 4000000 in
theorem dSt_p {nx : Nat → Nat → Option Nat} {z : Bool} {a b c : Int32} {j p : Nat} {s : DS} (hj : j < 12) (hop : opOk (nI j) a b c = true) (hp : p < 32) : ∀ q, (dSt nx z j a b c p s).2 = some q → q ≤ 32 := by
  intro q hq
  have hj' : j = 0 ∨ j = 1 ∨ j = 2 ∨ j = 3 ∨ j = 4 ∨ j = 5 ∨ j = 6 ∨ j = 7 ∨ j = 8 ∨ j = 9 ∨ j = 10 ∨ j = 11 := by omega
  rcases hj' with rfl | rfl | rfl | rfl | rfl | rfl | rfl | rfl | rfl | rfl | rfl | rfl
  · have hq : some (p + 1) = some q := hq
    cases hq; omega
  · have hq : (match s.2.2.1.1 c.toNatClampNeg with
      | none => (s, none)
      | some w => (mkS s a.toNatClampNeg b.toNatClampNeg (some w), some (p + 1))).2 = some q := hq
    cases hx : s.2.2.1.1 c.toNatClampNeg with
    | none => rw [hx] at hq; cases hq
    | some w => rw [hx] at hq; cases hq; omega
  · have hq : some (p + 1) = some q := hq
    cases hq; omega
  · have hq : some (p + 1) = some q := hq
    cases hq; omega
  · have hq : (match s.2.2.1.1 a.toNatClampNeg with
      | none => (s, none)
      | some w => (caS nx z s w b.toNatClampNeg, some (p + 1))).2 = some q := hq
    cases hx : s.2.2.1.1 a.toNatClampNeg with
    | none => rw [hx] at hq; cases hq
    | some w => rw [hx] at hq; cases hq; omega
  · have e := hop
    rw [opk_5] at e
    obtain ⟨v, hv, rfl⟩ := b_below_e (by omega) e
    have hq : some (if drN (drX s.1) % 2 = 1 then (nI v).toNatClampNeg else p + 1) = some q := hq
    rw [nI_cl (by omega)] at hq
    cases hq
    split <;> omega
  · have e := hop
    rw [opk_6] at e
    obtain ⟨v, hv, rfl⟩ := b_below_e (by omega) e
    have hq : some (nI v).toNatClampNeg = some q := hq
    rw [nI_cl (by omega)] at hq
    cases hq; omega
  · have e := hop
    rw [opk_7] at e
    rw [Bool.and_eq_true] at e
    obtain ⟨v, hv, rfl⟩ := b_below_e (by omega) e.2
    have hq : (match s.2.2.1.1 a.toNatClampNeg with
      | none => (s, some (nI v).toNatClampNeg)
      | some _ => (s, some (p + 1))).2 = some q := hq
    rw [nI_cl (by omega)] at hq
    cases hx : s.2.2.1.1 a.toNatClampNeg with
    | none => rw [hx] at hq; cases hq; omega
    | some w => rw [hx] at hq; cases hq; omega
  · have hq : some (p + 1) = some q := hq
    cases hq; omega
  · have hq : some (p + 1) = some q := hq
    cases hq; omega
  · have hq : some (p + 1) = some q := hq
    cases hq; omega
  · have hq : (none : Option Nat) = some q := hq
    cases hq
set_option maxRecDepth 100000 in
set_option maxHeartbeats 4000000 in
theorem wD_st {nx : Nat → Nat → Option Nat} {z : Bool} {a b c : Int32} {j p : Nat} {s : DS} (hj : j < 12) (hs : 1 ≤ sn) (hnx : ∀ u, u < sn → ∀ e, e < 24 → ∀ j, nx u e = some j → j < sn) (hop : opOk (nI j) a b c = true) (hw : wD sn n s) : wD sn (n + 1) (dSt nx z j a b c p s).1 := by
  have hvl : ∀ i, i < 6 → ∀ y, s.2.2.1.1 i = some y → y < s.2.1.1 := by
    obtain ⟨x, ⟨ob, kd, ow, la, st, br⟩, ⟨va, bn, bg⟩, ⟨t0, t1, t2, t3⟩⟩ := s
    exact hw.2.2.2.1
  have hj' : j = 0 ∨ j = 1 ∨ j = 2 ∨ j = 3 ∨ j = 4 ∨ j = 5 ∨ j = 6 ∨ j = 7 ∨ j = 8 ∨ j = 9 ∨ j = 10 ∨ j = 11 := by omega
  rcases hj' with rfl | rfl | rfl | rfl | rfl | rfl | rfl | rfl | rfl | rfl | rfl | rfl
  · have e := hop
    rw [opk_0] at e
    rw [Bool.and_eq_true] at e
    obtain ⟨v, hv, rfl⟩ := b_below_e (by omega) e.1
    obtain ⟨u, hu, rfl⟩ := b_below_e (by omega) e.2
    show wD sn (n + 1) (mkS s (nI v).toNatClampNeg (nI u).toNatClampNeg none)
    rw [nI_cl (by omega), nI_cl (by omega)]
    exact wD_mk hw hs hu (fun j hj => by cases hj)
  · have e := hop
    rw [opk_1] at e
    rw [Bool.and_eq_true, Bool.and_eq_true] at e
    obtain ⟨v, hv, rfl⟩ := b_below_e (by omega) e.1.1
    obtain ⟨u, hu, rfl⟩ := b_below_e (by omega) e.1.2
    obtain ⟨y, hy, rfl⟩ := b_below_e (by omega) e.2
    show wD sn (n + 1) (match s.2.2.1.1 (nI y).toNatClampNeg with
      | none => (s, none)
      | some w => (mkS s (nI v).toNatClampNeg (nI u).toNatClampNeg (some w), some (p + 1))).1
    rw [nI_cl (by omega), nI_cl (by omega), nI_cl (by omega)]
    cases hx : s.2.2.1.1 y with
    | none => exact wD_mono hw (by omega)
    | some w => exact wD_mk hw hs hu (fun j hj => by cases hj; exact hvl y hy w hx)
  · have e := hop
    rw [opk_2] at e
    rw [Bool.and_eq_true] at e
    obtain ⟨v, hv, rfl⟩ := b_below_e (by omega) e.1
    obtain ⟨u, hu, rfl⟩ := b_below_e (by omega) e.2
    show wD sn (n + 1) (s.1, s.2.1, (va_up s.2.2.1.1 (nI v).toNatClampNeg (s.2.2.1.1 (nI u).toNatClampNeg), s.2.2.1.2), s.2.2.2)
    rw [nI_cl (by omega), nI_cl (by omega)]
    exact wD_mono (wD_va _ (x := s.1) hw (fun j hj => hvl u hu j hj)) (by omega)
  · show wD sn (n + 1) (s.1, s.2.1, (va_up s.2.2.1.1 a.toNatClampNeg none, s.2.2.1.2), s.2.2.2)
    exact wD_mono (wD_va _ (x := s.1) hw (fun j hj => by cases hj)) (by omega)
  · have e := hop
    rw [opk_4] at e
    rw [Bool.and_eq_true] at e
    obtain ⟨v, hv, rfl⟩ := b_below_e (by omega) e.1
    obtain ⟨u, hu, rfl⟩ := b_below_e (by omega) e.2
    show wD sn (n + 1) (match s.2.2.1.1 (nI v).toNatClampNeg with
      | none => (s, none)
      | some w => (caS nx z s w (nI u).toNatClampNeg, some (p + 1))).1
    rw [nI_cl (by omega), nI_cl (by omega)]
    cases hx : s.2.2.1.1 v with
    | none => exact wD_mono hw (by omega)
    | some w => exact wD_mono (wD_ca hw hnx (hvl v hv w hx) hu) (by omega)
  · show wD sn (n + 1) (drX s.1, s.2)
    obtain ⟨x, ⟨ob, kd, ow, la, st, br⟩, ⟨va, bn, bg⟩, ⟨t0, t1, t2, t3⟩⟩ := s
    exact ⟨by have := hw.1; omega, by have := hw.2.1; omega, hw.2.2⟩
  · exact wD_mono hw (by omega)
  · show wD sn (n + 1) (match s.2.2.1.1 a.toNatClampNeg with
      | none => (s, some b.toNatClampNeg)
      | some _ => (s, some (p + 1))).1
    cases s.2.2.1.1 a.toNatClampNeg with
    | none => exact wD_mono hw (by omega)
    | some w => exact wD_mono hw (by omega)
  · have e := hop
    rw [opk_8] at e
    obtain ⟨v, hv, rfl⟩ := b_below_e (by omega) e
    show wD sn (n + 1) (puS s (s.2.2.1.1 (nI v).toNatClampNeg))
    rw [nI_cl (by omega)]
    exact wD_pu hw (fun j hj => hvl v hv j hj)
  · show wD sn (n + 1) (geS s a.toNatClampNeg)
    exact wD_mono (wD_ge hw) (by omega)
  · show wD sn (n + 1) (s.1, s.2.1, (s.2.2.1.1, 0, s.2.2.1.2.2), s.2.2.2)
    obtain ⟨x, ⟨ob, kd, ow, la, st, br⟩, ⟨va, bn, bg⟩, ⟨t0, t1, t2, t3⟩⟩ := s
    exact ⟨by have := hw.1; omega, by omega, hw.2.2.1, hw.2.2.2.1, fun i hi => absurd hi (by omega)⟩
  · exact wD_mono hw (by omega)
end DRY
