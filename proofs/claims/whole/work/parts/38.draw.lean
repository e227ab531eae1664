section DRX
variable {G : px_G} {ph : List px_E} {d : Nat} {Q : Option Value → List px_E → Prop} {kind bk sn n : Nat} {nx : Nat → Nat → Option Nat} {en : Nat → Bool}
theorem bkS_mk {s : DS} {v k : Nat} {o : Option Nat} : bkS kind (mkS s v k o) = bkS kind s := by
  obtain ⟨x, ⟨ob, kd, ow, la, st, br⟩, ⟨va, bn, bg⟩, ⟨t0, t1, t2, t3⟩⟩ := s
  show cntB kind (va_up kd ob k) (va_up br ob false) ob + (if va_up kd ob k ob = kind ∧ va_up br ob false ob = true then 1 else 0) = cntB kind kd br ob
  rw [va_up_s, va_up_s, if_neg (fun z => by cases z.2), cntB_eq ob (kd' := kd) (br' := br) (fun i hi => ⟨va_up_n (by omega), va_up_n (by omega)⟩)]
  rfl
set_option maxRecDepth 100000 in
set_option maxHeartbeats 4000000 in
theorem c_W_make {s : DS} {v k : Nat} {o : Option Nat} (hn : n < 200) (hw : wD sn n s) (hv : v < 6) (hk : k < 4) (h : cD kind bk s ph) (hQ : ∀ ph', fr FC ph ph' → cD kind bk (mkS s v k o) ph' → Q none ph') : px_Met G mX4_make (d + 1) 0 0 [.ref 88, .int (nI v), .int (nI k), .int (oI o)] ph Q := by
  obtain ⟨x, ⟨ob, kd, ow, la, st, br⟩, ⟨va, bn, bg⟩, ⟨t0, t1, t2, t3⟩⟩ := s
  obtain ⟨va', kd', ow', st', la', bg', f0, f1, f2, f3, h88, h89, ⟨h94, h95, h96, h97, h98, h99⟩, ⟨h90, h91, h92, h93⟩, v1, v2, v3, v4, v5⟩ := h
  have hob := hw.1
  refine px_start kX4_make (Nat.le_of_ble_eq_true rfl) ?_
  show px_W G _ _ _ _ _ 0 0 0 [some (.ref 88), some (.int (nI v)), some (.int (nI k)), some (.int (oI o))] [] ph
  (repeat (first | (refine px_st rfl rfl ?_; simp only [px_wp, px_at, px_set, px_set2, px_clr, px_ldi, px_ldl, px_lda, px_i1, px_i2, px_l1, px_l2, px_il, px_a1, px_r1, px_r2, px_ir, px_vir, px_g, px_v1, px_v2, px_gf, px_pf, px_ps, px_ar, px_nth, px_upd, px_zero, px_dfl, px_put_self, px_put_ne, px_sw, nI_add, pk_mul, true_and, and_true, Nat.reduceAdd, Nat.reduceLT, Nat.reduceEqDiff, List.length_cons, List.length_nil, true_or, or_true, List.set_set, ne_eq, not_false_eq_true, Fin.isValue, Fin.val_zero, Fin.val_one, Fin.val_two, reduceCtorEq, Option.map_some, List.length_set, Nat.zero_lt_succ, Option.toList_some, Option.toList_none, List.cons_append, List.nil_append, px_b_2, IA, LA, BA, ZA, QA, PT, DR, TL, MC, CD, CC, false_and, or_false, false_or, nar_b, nar_0, nar_1, nar_y, h88, h94, h95, h96, h97, h98]) | (refine ⟨_, rfl, by omega, ?_⟩) | (refine ⟨fun h => absurd h (nI_nlt (by omega) (by omega)), fun _ => ?_⟩) | (refine ⟨fun _ => ?_, fun h => absurd h (nI_nlt (by omega) (by omega))⟩) | (refine ⟨fun h => absurd (nI_lt (by omega) (by omega)) h, fun _ => ?_⟩) | (refine ⟨fun _ => ?_, fun h => absurd (nI_lt (by omega) (by omega)) h⟩) | (refine ⟨fun h => absurd ((nI_eq (by omega) (by omega)).mp h) (by omega), fun _ => ?_⟩) | (refine ⟨fun _ => ?_, fun h => absurd ((nI_eq (by omega) (by omega)).mp h) (by omega)⟩) | (refine ⟨fun h => absurd h (by decide), fun _ => ?_⟩) | (refine ⟨fun _ => ?_, fun h => absurd h (by decide)⟩) | (refine ⟨fun h => absurd rfl h, fun _ => ?_⟩) | (refine ⟨fun _ => ?_, fun h => absurd rfl h⟩)))
  have g89 : ((((((ph.set 88 (DN (nI kind) x (nI bk) (nI (ob + 1)) (nI bn))).set 94 (IA 6 (upd va' v (nI ob)))).set 95 (IA 200 (upd kd' ob (nI k)))).set 96 (IA 200 (upd ow' ob (oI o)))).set 97 (IA 200 (upd st' ob (nI 0)))).set 98 (IA 200 (upd la' ob (-2))))[89]? = some TL := by simp only [px_put_ne, h89, Nat.reduceEqDiff, not_false_eq_true]
  have g90 : ((((((ph.set 88 (DN (nI kind) x (nI bk) (nI (ob + 1)) (nI bn))).set 94 (IA 6 (upd va' v (nI ob)))).set 95 (IA 200 (upd kd' ob (nI k)))).set 96 (IA 200 (upd ow' ob (oI o)))).set 97 (IA 200 (upd st' ob (nI 0)))).set 98 (IA 200 (upd la' ob (-2))))[90]? = some (IA 4 f0) := by simp only [px_put_ne, h90, Nat.reduceEqDiff, not_false_eq_true]
  refine px_cV rfl rfl kX10_addObject rfl (c_T_addObject hk g89 g90 ?_) (Nat.le_refl _) g89 rfl rfl rfl (Nat.le_of_ble_eq_true rfl) (Nat.zero_le _) (Nat.zero_le _)
  refine px_return rfl rfl (Nat.le_refl _) (Nat.le_refl _) (hQ _ (fc_set (fc_set (fc_set (fc_set (fc_set (fc_set (fc_set fr_id rfl) rfl) rfl) rfl) rfl) rfl) rfl) ⟨upd va' v (nI ob), upd kd' ob (nI k), upd ow' ob (oI o), upd st' ob (nI 0), upd la' ob (-2), bg', upd f0 k (f0 k + nI 1), f1, f2, f3, ?_, ?_, ⟨?_, ?_, ?_, ?_, ?_, ?_⟩, ⟨?_, ?_, ?_, ?_⟩, fun i hi => ?_, fun i hi => ?_, v3, up_t v4 hk, v5⟩)
  rotate_right 2
  · by_cases hiv : i = v
    · subst hiv; rw [pk_us, va_up_s]; rfl
    · rw [va_up_n hiv]; unfold upd; rw [if_neg hiv]; exact v1 i hi
  · by_cases hio : i = ob
    · subst hio
      rw [pk_us, pk_us, pk_us, pk_us, va_up_s, va_up_s, va_up_s, va_up_s, va_up_s]
      exact ⟨rfl, rfl, rfl, fun _ => rfl⟩
    · rw [va_up_n hio, va_up_n hio, va_up_n hio, va_up_n hio, va_up_n hio]
      unfold upd
      rw [if_neg hio, if_neg hio, if_neg hio, if_neg hio]
      exact v2 i (by omega)
  all_goals simp only [px_put_self, px_put_ne, h88, h89, h90, h91, h92, h93, h94, h95, h96, h97, h98, h99, Nat.reduceEqDiff, not_false_eq_true, Option.map_some]
set_option maxRecDepth 100000 in
set_option maxHeartbeats 4000000 in
theorem c_W_makeFrom {s : DS} {v k c : Nat} (hn : n < 200) (hw : wD sn n s) (hv : v < 6) (hk : k < 4) (hc : c < 6) (h : cD kind bk s ph) (hQ1 : s.2.2.1.1 c = none → Q (some (.int (nI 0))) ph) (hQ2 : ∀ w, s.2.2.1.1 c = some w → ∀ ph', fr FC ph ph' → cD kind bk (mkS s v k (some w)) ph' → Q (some (.int (nI 1))) ph') : px_Met G mX4_makeFrom (d + 2) 0 0 [.ref 88, .int (nI v), .int (nI k), .int (nI c)] ph Q := by
  obtain ⟨x, ⟨ob, kd, ow, la, st, br⟩, ⟨va, bn, bg⟩, ⟨t0, t1, t2, t3⟩⟩ := s
  have h0 := h
  obtain ⟨va', kd', ow', st', la', bg', f0, f1, f2, f3, h88, h89, ⟨h94, h95, h96, h97, h98, h99⟩, ⟨h90, h91, h92, h93⟩, v1, v2, v3, v4, v5⟩ := h
  have hvc := v1 c hc
  refine px_start kX4_makeFrom (Nat.le_of_ble_eq_true rfl) ?_
  show px_W G _ _ _ _ _ 0 0 0 [some (.ref 88), some (.int (nI v)), some (.int (nI k)), some (.int (nI c)), none] [] ph
  cases hva : va c with
  | none =>
    rw [hva] at hvc
    have hvc : va' c = -2 := hvc
    (repeat (first | (refine px_st rfl rfl ?_; simp only [px_wp, px_at, px_set, px_set2, px_clr, px_ldi, px_ldl, px_lda, px_i1, px_i2, px_l1, px_l2, px_il, px_a1, px_r1, px_r2, px_ir, px_vir, px_g, px_v1, px_v2, px_gf, px_pf, px_ps, px_ar, px_nth, px_upd, px_zero, px_dfl, px_put_self, px_put_ne, px_sw, nI_add, pk_mul, true_and, and_true, Nat.reduceAdd, Nat.reduceLT, Nat.reduceEqDiff, List.length_cons, List.length_nil, true_or, or_true, List.set_set, ne_eq, not_false_eq_true, Fin.isValue, Fin.val_zero, Fin.val_one, Fin.val_two, reduceCtorEq, Option.map_some, List.length_set, Nat.zero_lt_succ, Option.toList_some, Option.toList_none, List.cons_append, List.nil_append, px_b_2, IA, LA, BA, ZA, QA, PT, DR, TL, MC, CD, CC, false_and, or_false, false_or, nar_b, nar_0, nar_1, nar_y, h88, h94, hvc]) | (refine ⟨_, rfl, by omega, ?_⟩) | (refine ⟨fun h => absurd h (nI_nlt (by omega) (by omega)), fun _ => ?_⟩) | (refine ⟨fun _ => ?_, fun h => absurd h (nI_nlt (by omega) (by omega))⟩) | (refine ⟨fun h => absurd (nI_lt (by omega) (by omega)) h, fun _ => ?_⟩) | (refine ⟨fun _ => ?_, fun h => absurd (nI_lt (by omega) (by omega)) h⟩) | (refine ⟨fun h => absurd ((nI_eq (by omega) (by omega)).mp h) (by omega), fun _ => ?_⟩) | (refine ⟨fun _ => ?_, fun h => absurd ((nI_eq (by omega) (by omega)).mp h) (by omega)⟩) | (refine ⟨fun h => absurd h (by decide), fun _ => ?_⟩) | (refine ⟨fun _ => ?_, fun h => absurd h (by decide)⟩) | (refine ⟨fun h => absurd rfl h, fun _ => ?_⟩) | (refine ⟨fun _ => ?_, fun h => absurd rfl h⟩)))
    exact px_ireturn rfl (Or.inr ⟨rfl, Or.inl rfl⟩) (Nat.le_refl _) (Nat.le_refl _) (hQ1 hva)
  | some w =>
    rw [hva] at hvc
    have hvc : va' c = nI w := hvc
    have hwo := hw.2.2.2.1 c hc w hva
    have hob := hw.1
    have hne : ¬ nI w = -2 := nI_m2 (by omega)
    (repeat (first | (refine ⟨fun _ => ?_, fun h => absurd h hne⟩) | (refine px_st rfl rfl ?_; simp only [px_wp, px_at, px_set, px_set2, px_clr, px_ldi, px_ldl, px_lda, px_i1, px_i2, px_l1, px_l2, px_il, px_a1, px_r1, px_r2, px_ir, px_vir, px_g, px_v1, px_v2, px_gf, px_pf, px_ps, px_ar, px_nth, px_upd, px_zero, px_dfl, px_put_self, px_put_ne, px_sw, nI_add, pk_mul, true_and, and_true, Nat.reduceAdd, Nat.reduceLT, Nat.reduceEqDiff, List.length_cons, List.length_nil, true_or, or_true, List.set_set, ne_eq, not_false_eq_true, Fin.isValue, Fin.val_zero, Fin.val_one, Fin.val_two, reduceCtorEq, Option.map_some, List.length_set, Nat.zero_lt_succ, Option.toList_some, Option.toList_none, List.cons_append, List.nil_append, px_b_2, IA, LA, BA, ZA, QA, PT, DR, TL, MC, CD, CC, false_and, or_false, false_or, nar_b, nar_0, nar_1, nar_y, h88, h94, hvc]) | (refine ⟨_, rfl, by omega, ?_⟩) | (refine ⟨fun h => absurd h (nI_nlt (by omega) (by omega)), fun _ => ?_⟩) | (refine ⟨fun _ => ?_, fun h => absurd h (nI_nlt (by omega) (by omega))⟩) | (refine ⟨fun h => absurd (nI_lt (by omega) (by omega)) h, fun _ => ?_⟩) | (refine ⟨fun _ => ?_, fun h => absurd (nI_lt (by omega) (by omega)) h⟩) | (refine ⟨fun h => absurd ((nI_eq (by omega) (by omega)).mp h) (by omega), fun _ => ?_⟩) | (refine ⟨fun _ => ?_, fun h => absurd ((nI_eq (by omega) (by omega)).mp h) (by omega)⟩) | (refine ⟨fun h => absurd h (by decide), fun _ => ?_⟩) | (refine ⟨fun _ => ?_, fun h => absurd h (by decide)⟩) | (refine ⟨fun h => absurd rfl h, fun _ => ?_⟩) | (refine ⟨fun _ => ?_, fun h => absurd rfl h⟩)))
    refine px_cV rfl rfl kX4_make rfl (c_W_make (d := d) (o := some w) hn hw hv hk h0 (fun ph' hf hc' => ?_)) (Nat.le_refl _) h88 rfl rfl rfl (Nat.le_of_ble_eq_true rfl) (Nat.zero_le _) (Nat.zero_le _)
    (repeat (first | (refine ⟨_, rfl, by omega, ?_⟩) | (refine px_st rfl rfl ?_; simp only [px_wp, px_at, px_set, px_set2, px_clr, px_ldi, px_ldl, px_lda, px_i1, px_i2, px_l1, px_l2, px_il, px_a1, px_r1, px_r2, px_ir, px_vir, px_g, px_v1, px_v2, px_gf, px_pf, px_ps, px_ar, px_nth, px_upd, px_zero, px_dfl, px_put_self, px_put_ne, px_sw, nI_add, pk_mul, true_and, and_true, Nat.reduceAdd, Nat.reduceLT, Nat.reduceEqDiff, List.length_cons, List.length_nil, true_or, or_true, List.set_set, ne_eq, not_false_eq_true, Fin.isValue, Fin.val_zero, Fin.val_one, Fin.val_two, reduceCtorEq, Option.map_some, List.length_set, Nat.zero_lt_succ, Option.toList_some, Option.toList_none, List.cons_append, List.nil_append, px_b_2, IA, LA, BA, ZA, QA, PT, DR, TL, MC, CD, CC, false_and, or_false, false_or, nar_b, nar_0, nar_1, nar_y])))
    exact px_ireturn rfl (Or.inr ⟨rfl, Or.inr rfl⟩) (Nat.le_refl _) (Nat.le_refl _) (hQ2 w hva ph' hf hc')
set_option maxRecDepth 100000 in
set_option maxHeartbeats 4000000 in
theorem c_W_call {s : DS} {a o e : Nat} {b0 : Nat} {z : Bool} {p q : Nat} (hn : n ≤ 200) (hb0 : b0 ≤ 20000) (hk : kind < 4) (hw : wD sn n s) (h : cD kind (b0 + bkS kind s) s ph) (hM : isM ph a sn nx en) (hz : ph[a]? = some (MC sn z p q)) (ho : o < s.2.1.1) (he : e < 12) (hQ : ∀ ph', fr FC ph ph' → cD kind (b0 + bkS kind (caS nx z s o e)) (caS nx z s o e) ph' → Q (some (.int (nI 1))) ph') : px_Met G mX4_call (d + 2) 0 0 [.ref 88, .ref a, .int (nI o), .int (nI e)] ph Q := by
  obtain ⟨x, ⟨ob, kd, ow, la, st, br⟩, ⟨va, bn, bg⟩, ⟨t0, t1, t2, t3⟩⟩ := s
  obtain ⟨va', kd', ow', st', la', bg', f0, f1, f2, f3, h88, h89, ⟨h94, h95, h96, h97, h98, h99⟩, ⟨h90, h91, h92, h93⟩, v1, v2, v3, v4, v5, v6, v7⟩ := h
  have h88 : ph[88]? = some (DN (nI kind) x (nI (b0 + cntB kind kd br ob)) (nI ob) (nI bn)) := h88
  have hw0 := hw
  obtain ⟨w1, w2, w3, w4, w5⟩ := hw
  have ho : o < ob := ho
  obtain ⟨a1, a2, a3, a4⟩ := v2 o ho
  obtain ⟨b1, b2, b3, b4⟩ := w3 o ho
  have hne : ¬ nI o = -2 := nI_m2 (by omega)
  have ha153 := hM.2
  obtain ⟨pp, qq, ff, gg, ⟨a153, -, -⟩, -⟩ := ha153
  have hs3 := hM.1.2.2
  have hs24 := hM.1.2.1
  refine px_start kX4_call (Nat.le_of_ble_eq_true rfl) ?_
  show px_W G _ _ _ _ _ 0 0 0 [some (.ref 88), some (.ref a), some (.int (nI o)), some (.int (nI e)), none] [] ph
  -- behind the tally
  have rest : ∀ (t1' t3' : Nat → Int32) (ph1 : List px_E), fr FC ph ph1 → cD kind (b0 + cntB kind kd br ob) (x, (ob, kd, ow, la, st, br), (va, bn, bg), (t0, t1', t2, t3')) ph1 → (∀ ph', fr FC ph ph' → cD kind (b0 + cntB kind kd (if z then hpL nx ow o (12 + e) ob 0 (hp1 nx (st, br) o e) else hp1 nx (st, br) o e).2 ob) (x, (ob, kd, ow, va_up la o (some e), (if z then hpL nx ow o (12 + e) ob 0 (hp1 nx (st, br) o e) else hp1 nx (st, br) o e).1, (if z then hpL nx ow o (12 + e) ob 0 (hp1 nx (st, br) o e) else hp1 nx (st, br) o e).2), (va, bn, bg), (t0, t1', t2, t3')) ph' → Q (some (.int (nI 1))) ph') → px_W G mX4_call (d + 2) 0 0 Q 0 0 28 [some (.ref 88), some (.ref a), some (.int (nI o)), some (.int (nI e)), none] [] ph1 := by
    intro t1' t3' ph1 hf1 hc1 hQ'
    obtain ⟨va', kd', ow', st', la', bg', f0, f1, f2, f3, h88, h89, ⟨h94, h95, h96, h97, h98, h99⟩, ⟨h90, h91, h92, h93⟩, v1, v2, v3, v4, v5⟩ := hc1
    (repeat (first | (refine px_st rfl rfl ?_; simp only [px_wp, px_at, px_set, px_set2, px_clr, px_ldi, px_ldl, px_lda, px_i1, px_i2, px_l1, px_l2, px_il, px_a1, px_r1, px_r2, px_ir, px_vir, px_g, px_v1, px_v2, px_gf, px_pf, px_ps, px_ar, px_nth, px_upd, px_zero, px_dfl, px_put_self, px_put_ne, px_sw, nI_add, pk_mul, true_and, and_true, Nat.reduceAdd, Nat.reduceLT, Nat.reduceEqDiff, List.length_cons, List.length_nil, true_or, or_true, List.set_set, ne_eq, not_false_eq_true, Fin.isValue, Fin.val_zero, Fin.val_one, Fin.val_two, reduceCtorEq, Option.map_some, List.length_set, Nat.zero_lt_succ, Option.toList_some, Option.toList_none, List.cons_append, List.nil_append, px_b_2, IA, LA, BA, ZA, QA, PT, DR, TL, MC, CD, CC, false_and, or_false, false_or, nar_b, nar_0, nar_1, nar_y, h88, h98]) | (refine ⟨_, rfl, by omega, ?_⟩) | (refine ⟨fun h => absurd h (nI_nlt (by omega) (by omega)), fun _ => ?_⟩) | (refine ⟨fun _ => ?_, fun h => absurd h (nI_nlt (by omega) (by omega))⟩) | (refine ⟨fun h => absurd (nI_lt (by omega) (by omega)) h, fun _ => ?_⟩) | (refine ⟨fun _ => ?_, fun h => absurd (nI_lt (by omega) (by omega)) h⟩) | (refine ⟨fun h => absurd ((nI_eq (by omega) (by omega)).mp h) (by omega), fun _ => ?_⟩) | (refine ⟨fun _ => ?_, fun h => absurd ((nI_eq (by omega) (by omega)).mp h) (by omega)⟩) | (refine ⟨fun h => absurd h (by decide), fun _ => ?_⟩) | (refine ⟨fun _ => ?_, fun h => absurd h (by decide)⟩) | (refine ⟨fun h => absurd rfl h, fun _ => ?_⟩) | (refine ⟨fun _ => ?_, fun h => absurd rfl h⟩)))
    have hc2 : cD kind (b0 + cntB kind kd br ob) (x, (ob, kd, ow, va_up la o (some e), st, br), (va, bn, bg), (t0, t1', t2, t3')) (ph1.set 98 (IA 200 (upd la' o (nI e)))) := by
      refine ⟨va', kd', ow', st', upd la' o (nI e), bg', f0, f1, f2, f3, ?_, ?_, ⟨?_, ?_, ?_, ?_, ?_, ?_⟩, ⟨?_, ?_, ?_, ?_⟩, v1, fun i hi => ?_, v3, v4, v5⟩
      rotate_right 1
      · obtain ⟨y1, y2, y3, y4⟩ := v2 i hi
        refine ⟨y1, y2, ?_, y4⟩
        by_cases hio : i = o
        · subst hio; rw [pk_us, va_up_s]; rfl
        · rw [va_up_n hio]; unfold upd; rw [if_neg hio]; exact y3
      all_goals simp only [px_put_self, px_put_ne, h88, h89, h90, h91, h92, h93, h94, h95, h96, h97, h98, h99, Nat.reduceEqDiff, not_false_eq_true, Option.map_some]
    have hf2 : fr FC ph (ph1.set 98 (IA 200 (upd la' o (nI e)))) := fc_set hf1 rfl
    have hw2 : wD sn n (x, (ob, kd, ow, va_up la o (some e), st, br), (va, bn, bg), (t0, t1', t2, t3')) := ⟨w1, w2, fun i hi => by
      obtain ⟨y1, y2, y3, y4⟩ := w3 i hi
      refine ⟨y1, y2, fun j hj => ?_, y4⟩
      by_cases hio : i = o
      · subst hio; rw [va_up_s] at hj; cases hj; exact he
      · rw [va_up_n hio] at hj; exact y3 j hj, w4, w5⟩
    have g88 : (ph1.set 98 (IA 200 (upd la' o (nI e))))[88]? = some (DN (nI kind) x (nI (b0 + cntB kind kd br ob)) (nI ob) (nI bn)) := (px_put_ne (by decide)).trans h88
    have hcle : ∀ br' : Nat → Bool, cntB kind kd br' ob ≤ 200 := fun br' => by
      have := cntB_le (kind := kind) (kd := kd) (br := br') ob
      omega
    have hb1 := hcle br
    refine px_cV rfl rfl kX4_takeEvent rfl (c_W_takeEvent (d := d) hn hk hw2 hc2 (hM.fr hf2 (FC_sm)) ho (show e < 24 by omega) (by omega) (fun ph3 hf3 hc3 => ?_)) (Nat.le_refl _) g88 rfl rfl rfl (Nat.le_of_ble_eq_true rfl) (Nat.zero_le _) (Nat.zero_le _)
    have hc3 : cD kind (b0 + cntB kind kd (hp1 nx (st, br) o e).2 ob) (x, (ob, kd, ow, va_up la o (some e), hp1 nx (st, br) o e), (va, bn, bg), (t0, t1', t2, t3')) ph3 := by
      rw [cnt_hp1 ho, ← Nat.add_assoc]
      exact hc3
    have hf3' := fr_tr hf2 hf3
    have hst1 : ∀ j, j < ob → (hp1 nx (st, br) o e).1 j < sn := hp1_lt hs3 (by omega) ho (fun j hj => (w3 j hj).2.2.2)
    generalize hp1 nx (st, br) o e = sb at hc3 hQ' hst1
    obtain ⟨TT, hTT⟩ : ∃ TT, hpL nx ow o (12 + e) ob 0 sb = TT := ⟨_, rfl⟩
    have loop : ∀ (r i : Nat) (sb' : (Nat → Nat) × (Nat → Bool)) (ph' : List px_E), i + r = ob → (∀ j, j < ob → sb'.1 j < sn) → hpL nx ow o (12 + e) r i sb' = TT → z = true → fr FC ph ph' → cD kind (b0 + cntB kind kd sb'.2 ob) (x, (ob, kd, ow, va_up la o (some e), sb'), (va, bn, bg), (t0, t1', t2, t3')) ph' → px_W G mX4_call (d + 2) 0 0 Q 0 0 45 [some (.ref 88), some (.ref a), some (.int (nI o)), some (.int (nI e)), some (.int (nI i))] [] ph' := by
      intro r
      induction r with
      | zero =>
        intro i sb' ph' hi hlt hL hz' hf' hc'
        have hio : i = ob := by omega
        subst hio
        have hL : sb' = hpL nx ow o (12 + e) i 0 sb := (show sb' = TT from hL).trans hTT.symm
        subst hz'
        have hq := hQ' ph' hf'
        rw [if_pos rfl, ← hL] at hq
        have hq2 := hq hc'
        obtain ⟨va', kd', ow', st', la', bg', f0, f1, f2, f3, h88, h89, -⟩ := hc'
        (repeat (first | (refine px_st rfl rfl ?_; simp only [px_wp, px_at, px_set, px_set2, px_clr, px_ldi, px_ldl, px_lda, px_i1, px_i2, px_l1, px_l2, px_il, px_a1, px_r1, px_r2, px_ir, px_vir, px_g, px_v1, px_v2, px_gf, px_pf, px_ps, px_ar, px_nth, px_upd, px_zero, px_dfl, px_put_self, px_put_ne, px_sw, nI_add, pk_mul, true_and, and_true, Nat.reduceAdd, Nat.reduceLT, Nat.reduceEqDiff, List.length_cons, List.length_nil, true_or, or_true, List.set_set, ne_eq, not_false_eq_true, Fin.isValue, Fin.val_zero, Fin.val_one, Fin.val_two, reduceCtorEq, Option.map_some, List.length_set, Nat.zero_lt_succ, Option.toList_some, Option.toList_none, List.cons_append, List.nil_append, px_b_2, IA, LA, BA, ZA, QA, PT, DR, TL, MC, CD, CC, false_and, or_false, false_or, nar_b, nar_0, nar_1, nar_y, h88]) | (refine ⟨_, rfl, by omega, ?_⟩) | (refine ⟨fun h => absurd h (nI_nlt (by omega) (by omega)), fun _ => ?_⟩) | (refine ⟨fun _ => ?_, fun h => absurd h (nI_nlt (by omega) (by omega))⟩) | (refine ⟨fun h => absurd (nI_lt (by omega) (by omega)) h, fun _ => ?_⟩) | (refine ⟨fun _ => ?_, fun h => absurd (nI_lt (by omega) (by omega)) h⟩) | (refine ⟨fun h => absurd ((nI_eq (by omega) (by omega)).mp h) (by omega), fun _ => ?_⟩) | (refine ⟨fun _ => ?_, fun h => absurd ((nI_eq (by omega) (by omega)).mp h) (by omega)⟩) | (refine ⟨fun h => absurd h (by decide), fun _ => ?_⟩) | (refine ⟨fun _ => ?_, fun h => absurd h (by decide)⟩) | (refine ⟨fun h => absurd rfl h, fun _ => ?_⟩) | (refine ⟨fun _ => ?_, fun h => absurd rfl h⟩)))
        exact px_ireturn rfl (Or.inr ⟨rfl, Or.inr rfl⟩) (Nat.le_refl _) (Nat.le_refl _) hq2
      | succ r ih =>
        intro i sb' ph' hi hlt hL hz' hf' hc'
        have hc0 := hc'
        have hi' : i < ob := by omega
        have hza := hf' _ _ (FC_dy _ _ a153) hz
        subst hz'
        unfold hpL at hL
        have hob := w1
        obtain ⟨va', kd', ow', st', la', bg', f0, f1, f2, f3, h88, h89, ⟨h94, h95, h96, h97, h98, h99⟩, ⟨h90, h91, h92, h93⟩, v1, v2, v3, v4, v5⟩ := hc'
        have hoi := (v2 i hi').2.1
        have hoj := (w3 i hi').2.1
        by_cases how : ow i = some o
        · rw [if_pos how] at hL
          rw [how] at hoi
          have hoi : ow' i = nI o := hoi
          (repeat (first | (refine px_st rfl rfl ?_; simp only [px_wp, px_at, px_set, px_set2, px_clr, px_ldi, px_ldl, px_lda, px_i1, px_i2, px_l1, px_l2, px_il, px_a1, px_r1, px_r2, px_ir, px_vir, px_g, px_v1, px_v2, px_gf, px_pf, px_ps, px_ar, px_nth, px_upd, px_zero, px_dfl, px_put_self, px_put_ne, px_sw, nI_add, pk_mul, true_and, and_true, Nat.reduceAdd, Nat.reduceLT, Nat.reduceEqDiff, List.length_cons, List.length_nil, true_or, or_true, List.set_set, ne_eq, not_false_eq_true, Fin.isValue, Fin.val_zero, Fin.val_one, Fin.val_two, reduceCtorEq, Option.map_some, List.length_set, Nat.zero_lt_succ, Option.toList_some, Option.toList_none, List.cons_append, List.nil_append, px_b_2, IA, LA, BA, ZA, QA, PT, DR, TL, MC, CD, CC, false_and, or_false, false_or, nar_b, nar_0, nar_1, nar_y, h88, h96, hza, hoi]) | (refine ⟨_, rfl, by omega, ?_⟩) | (refine ⟨fun h => absurd h (nI_nlt (by omega) (by omega)), fun _ => ?_⟩) | (refine ⟨fun _ => ?_, fun h => absurd h (nI_nlt (by omega) (by omega))⟩) | (refine ⟨fun h => absurd (nI_lt (by omega) (by omega)) h, fun _ => ?_⟩) | (refine ⟨fun _ => ?_, fun h => absurd (nI_lt (by omega) (by omega)) h⟩) | (refine ⟨fun h => absurd ((nI_eq (by omega) (by omega)).mp h) (by omega), fun _ => ?_⟩) | (refine ⟨fun _ => ?_, fun h => absurd ((nI_eq (by omega) (by omega)).mp h) (by omega)⟩) | (refine ⟨fun h => absurd h (by decide), fun _ => ?_⟩) | (refine ⟨fun _ => ?_, fun h => absurd h (by decide)⟩) | (refine ⟨fun h => absurd rfl h, fun _ => ?_⟩) | (refine ⟨fun _ => ?_, fun h => absurd rfl h⟩)))
          have hw3 : wD sn n (x, (ob, kd, ow, va_up la o (some e), sb'), (va, bn, bg), (t0, t1', t2, t3')) := ⟨w1, w2, fun j hj => by
            obtain ⟨y1, y2, y3, y4⟩ := hw2.2.2.1 j hj
            exact ⟨y1, y2, y3, hlt j hj⟩, w4, w5⟩
          have hb2 := hcle sb'.2
          refine px_cV rfl rfl kX4_takeEvent rfl (c_W_takeEvent (d := d) hn hk hw3 hc0 (hM.fr hf' (FC_sm)) hi' (show 12 + e < 24 by omega) (by omega) (fun ph4 hf4 hc4 => ?_)) (Nat.le_refl _) h88 rfl rfl rfl (Nat.le_of_ble_eq_true rfl) (Nat.zero_le _) (Nat.zero_le _)
          have hc4 : cD kind (b0 + cntB kind kd (hp1 nx sb' i (12 + e)).2 ob) (x, (ob, kd, ow, va_up la o (some e), hp1 nx sb' i (12 + e)), (va, bn, bg), (t0, t1', t2, t3')) ph4 := by
            obtain ⟨q1, q2⟩ := sb'
            rw [cnt_hp1 hi', ← Nat.add_assoc]
            exact hc4
          have hih := ih (i + 1) (hp1 nx sb' i (12 + e)) ph4 (by omega) (hp1_lt hs3 (by omega) hi' hlt) hL rfl (fr_tr hf' hf4) hc4
          (repeat (first | (exact hih) | (refine px_st rfl rfl ?_; simp only [px_wp, px_at, px_set, px_set2, px_clr, px_ldi, px_ldl, px_lda, px_i1, px_i2, px_l1, px_l2, px_il, px_a1, px_r1, px_r2, px_ir, px_vir, px_g, px_v1, px_v2, px_gf, px_pf, px_ps, px_ar, px_nth, px_upd, px_zero, px_dfl, px_put_self, px_put_ne, px_sw, nI_add, pk_mul, true_and, and_true, Nat.reduceAdd, Nat.reduceLT, Nat.reduceEqDiff, List.length_cons, List.length_nil, true_or, or_true, List.set_set, ne_eq, not_false_eq_true, Fin.isValue, Fin.val_zero, Fin.val_one, Fin.val_two, reduceCtorEq, Option.map_some, List.length_set, Nat.zero_lt_succ, Option.toList_some, Option.toList_none, List.cons_append, List.nil_append, px_b_2, IA, LA, BA, ZA, QA, PT, DR, TL, MC, CD, CC, false_and, or_false, false_or, nar_b, nar_0, nar_1, nar_y]) | (refine ⟨_, rfl, by omega, ?_⟩) | (refine ⟨fun h => absurd h (nI_nlt (by omega) (by omega)), fun _ => ?_⟩) | (refine ⟨fun _ => ?_, fun h => absurd h (nI_nlt (by omega) (by omega))⟩) | (refine ⟨fun h => absurd (nI_lt (by omega) (by omega)) h, fun _ => ?_⟩) | (refine ⟨fun _ => ?_, fun h => absurd (nI_lt (by omega) (by omega)) h⟩) | (refine ⟨fun h => absurd ((nI_eq (by omega) (by omega)).mp h) (by omega), fun _ => ?_⟩) | (refine ⟨fun _ => ?_, fun h => absurd ((nI_eq (by omega) (by omega)).mp h) (by omega)⟩) | (refine ⟨fun h => absurd h (by decide), fun _ => ?_⟩) | (refine ⟨fun _ => ?_, fun h => absurd h (by decide)⟩) | (refine ⟨fun h => absurd rfl h, fun _ => ?_⟩) | (refine ⟨fun _ => ?_, fun h => absurd rfl h⟩)))
        · rw [if_neg how] at hL
          have hne2 : ¬ ow' i = nI o := by
            rw [hoi]
            exact fun q => how ((oI_some (by omega) (fun j hj => by have := hoj j hj; omega)).mp q)
          have hih := ih (i + 1) sb' ph' (by omega) hlt hL rfl hf' hc0
          (repeat (first | (first | exact hih | refine ⟨fun _ => ?_, fun q => absurd q hne2⟩) | (refine px_st rfl rfl ?_; simp only [px_wp, px_at, px_set, px_set2, px_clr, px_ldi, px_ldl, px_lda, px_i1, px_i2, px_l1, px_l2, px_il, px_a1, px_r1, px_r2, px_ir, px_vir, px_g, px_v1, px_v2, px_gf, px_pf, px_ps, px_ar, px_nth, px_upd, px_zero, px_dfl, px_put_self, px_put_ne, px_sw, nI_add, pk_mul, true_and, and_true, Nat.reduceAdd, Nat.reduceLT, Nat.reduceEqDiff, List.length_cons, List.length_nil, true_or, or_true, List.set_set, ne_eq, not_false_eq_true, Fin.isValue, Fin.val_zero, Fin.val_one, Fin.val_two, reduceCtorEq, Option.map_some, List.length_set, Nat.zero_lt_succ, Option.toList_some, Option.toList_none, List.cons_append, List.nil_append, px_b_2, IA, LA, BA, ZA, QA, PT, DR, TL, MC, CD, CC, false_and, or_false, false_or, nar_b, nar_0, nar_1, nar_y, h88, h96, hza]) | (refine ⟨_, rfl, by omega, ?_⟩) | (refine ⟨fun h => absurd h (nI_nlt (by omega) (by omega)), fun _ => ?_⟩) | (refine ⟨fun _ => ?_, fun h => absurd h (nI_nlt (by omega) (by omega))⟩) | (refine ⟨fun h => absurd (nI_lt (by omega) (by omega)) h, fun _ => ?_⟩) | (refine ⟨fun _ => ?_, fun h => absurd (nI_lt (by omega) (by omega)) h⟩) | (refine ⟨fun h => absurd ((nI_eq (by omega) (by omega)).mp h) (by omega), fun _ => ?_⟩) | (refine ⟨fun _ => ?_, fun h => absurd ((nI_eq (by omega) (by omega)).mp h) (by omega)⟩) | (refine ⟨fun h => absurd h (by decide), fun _ => ?_⟩) | (refine ⟨fun _ => ?_, fun h => absurd h (by decide)⟩) | (refine ⟨fun h => absurd rfl h, fun _ => ?_⟩) | (refine ⟨fun _ => ?_, fun h => absurd rfl h⟩)))
    cases z with
    | true =>
      have hl := loop ob 0 sb ph3 (by omega) hst1 hTT rfl hf3' hc3
      (repeat (first | (exact hl) | (refine px_st rfl rfl ?_; simp only [px_wp, px_at, px_set, px_set2, px_clr, px_ldi, px_ldl, px_lda, px_i1, px_i2, px_l1, px_l2, px_il, px_a1, px_r1, px_r2, px_ir, px_vir, px_g, px_v1, px_v2, px_gf, px_pf, px_ps, px_ar, px_nth, px_upd, px_zero, px_dfl, px_put_self, px_put_ne, px_sw, nI_add, pk_mul, true_and, and_true, Nat.reduceAdd, Nat.reduceLT, Nat.reduceEqDiff, List.length_cons, List.length_nil, true_or, or_true, List.set_set, ne_eq, not_false_eq_true, Fin.isValue, Fin.val_zero, Fin.val_one, Fin.val_two, reduceCtorEq, Option.map_some, List.length_set, Nat.zero_lt_succ, Option.toList_some, Option.toList_none, List.cons_append, List.nil_append, px_b_2, IA, LA, BA, ZA, QA, PT, DR, TL, MC, CD, CC, false_and, or_false, false_or, nar_b, nar_0, nar_1, nar_y]) | (refine ⟨_, rfl, by omega, ?_⟩) | (refine ⟨fun h => absurd h (nI_nlt (by omega) (by omega)), fun _ => ?_⟩) | (refine ⟨fun _ => ?_, fun h => absurd h (nI_nlt (by omega) (by omega))⟩) | (refine ⟨fun h => absurd (nI_lt (by omega) (by omega)) h, fun _ => ?_⟩) | (refine ⟨fun _ => ?_, fun h => absurd (nI_lt (by omega) (by omega)) h⟩) | (refine ⟨fun h => absurd ((nI_eq (by omega) (by omega)).mp h) (by omega), fun _ => ?_⟩) | (refine ⟨fun _ => ?_, fun h => absurd ((nI_eq (by omega) (by omega)).mp h) (by omega)⟩) | (refine ⟨fun h => absurd h (by decide), fun _ => ?_⟩) | (refine ⟨fun _ => ?_, fun h => absurd h (by decide)⟩) | (refine ⟨fun h => absurd rfl h, fun _ => ?_⟩) | (refine ⟨fun _ => ?_, fun h => absurd rfl h⟩)))
    | false =>
      have hza := hf3' _ _ (FC_dy _ _ a153) hz
      have hq := hQ' ph3 hf3'
      rw [if_neg (by simp)] at hq
      have hq2 := hq hc3
      obtain ⟨va', kd', ow', st', la', bg', f0, f1, f2, f3, h88, h89, -⟩ := hc3
      (repeat (first | (refine px_st rfl rfl ?_; simp only [px_wp, px_at, px_set, px_set2, px_clr, px_ldi, px_ldl, px_lda, px_i1, px_i2, px_l1, px_l2, px_il, px_a1, px_r1, px_r2, px_ir, px_vir, px_g, px_v1, px_v2, px_gf, px_pf, px_ps, px_ar, px_nth, px_upd, px_zero, px_dfl, px_put_self, px_put_ne, px_sw, nI_add, pk_mul, true_and, and_true, Nat.reduceAdd, Nat.reduceLT, Nat.reduceEqDiff, List.length_cons, List.length_nil, true_or, or_true, List.set_set, ne_eq, not_false_eq_true, Fin.isValue, Fin.val_zero, Fin.val_one, Fin.val_two, reduceCtorEq, Option.map_some, List.length_set, Nat.zero_lt_succ, Option.toList_some, Option.toList_none, List.cons_append, List.nil_append, px_b_2, IA, LA, BA, ZA, QA, PT, DR, TL, MC, CD, CC, false_and, or_false, false_or, nar_b, nar_0, nar_1, nar_y, h88, hza]) | (refine ⟨_, rfl, by omega, ?_⟩) | (refine ⟨fun h => absurd h (nI_nlt (by omega) (by omega)), fun _ => ?_⟩) | (refine ⟨fun _ => ?_, fun h => absurd h (nI_nlt (by omega) (by omega))⟩) | (refine ⟨fun h => absurd (nI_lt (by omega) (by omega)) h, fun _ => ?_⟩) | (refine ⟨fun _ => ?_, fun h => absurd (nI_lt (by omega) (by omega)) h⟩) | (refine ⟨fun h => absurd ((nI_eq (by omega) (by omega)).mp h) (by omega), fun _ => ?_⟩) | (refine ⟨fun _ => ?_, fun h => absurd ((nI_eq (by omega) (by omega)).mp h) (by omega)⟩) | (refine ⟨fun h => absurd h (by decide), fun _ => ?_⟩) | (refine ⟨fun _ => ?_, fun h => absurd h (by decide)⟩) | (refine ⟨fun h => absurd rfl h, fun _ => ?_⟩) | (refine ⟨fun _ => ?_, fun h => absurd rfl h⟩)))
      exact px_ireturn rfl (Or.inr ⟨rfl, Or.inr rfl⟩) (Nat.le_refl _) (Nat.le_refl _) hq2
  have hlo : la' o = -2 ∨ ∃ j, j < 12 ∧ la' o = nI j := by
    cases hla : la o with
    | none => rw [hla] at a3; exact Or.inl a3
    | some j => rw [hla] at a3; exact Or.inr ⟨j, b3 j hla, a3⟩
  (repeat (first | (refine ⟨fun _ => ?_, fun h => absurd h hne⟩) | (refine px_st rfl rfl ?_; simp only [px_wp, px_at, px_set, px_set2, px_clr, px_ldi, px_ldl, px_lda, px_i1, px_i2, px_l1, px_l2, px_il, px_a1, px_r1, px_r2, px_ir, px_vir, px_g, px_v1, px_v2, px_gf, px_pf, px_ps, px_ar, px_nth, px_upd, px_zero, px_dfl, px_put_self, px_put_ne, px_sw, nI_add, pk_mul, true_and, and_true, Nat.reduceAdd, Nat.reduceLT, Nat.reduceEqDiff, List.length_cons, List.length_nil, true_or, or_true, List.set_set, ne_eq, not_false_eq_true, Fin.isValue, Fin.val_zero, Fin.val_one, Fin.val_two, reduceCtorEq, Option.map_some, List.length_set, Nat.zero_lt_succ, Option.toList_some, Option.toList_none, List.cons_append, List.nil_append, px_b_2, IA, LA, BA, ZA, QA, PT, DR, TL, MC, CD, CC, false_and, or_false, false_or, nar_b, nar_0, nar_1, nar_y, h88, h95, a1, h98]) | (refine ⟨_, rfl, by omega, ?_⟩) | (refine ⟨fun h => absurd h (nI_nlt (by omega) (by omega)), fun _ => ?_⟩) | (refine ⟨fun _ => ?_, fun h => absurd h (nI_nlt (by omega) (by omega))⟩) | (refine ⟨fun h => absurd (nI_lt (by omega) (by omega)) h, fun _ => ?_⟩) | (refine ⟨fun _ => ?_, fun h => absurd (nI_lt (by omega) (by omega)) h⟩) | (refine ⟨fun h => absurd ((nI_eq (by omega) (by omega)).mp h) (by omega), fun _ => ?_⟩) | (refine ⟨fun _ => ?_, fun h => absurd ((nI_eq (by omega) (by omega)).mp h) (by omega)⟩) | (refine ⟨fun h => absurd h (by decide), fun _ => ?_⟩) | (refine ⟨fun _ => ?_, fun h => absurd h (by decide)⟩) | (refine ⟨fun h => absurd rfl h, fun _ => ?_⟩) | (refine ⟨fun _ => ?_, fun h => absurd rfl h⟩)))
  refine px_cV rfl rfl kX10_addCall rfl (c_T_addCall b1 he hlo h89 h91 h93 (fun hl => ?_) (fun j hj hl => ?_)) (Nat.le_refl _) h89 rfl rfl rfl (Nat.le_of_ble_eq_true rfl) (Nat.zero_le _) (Nat.zero_le _)
  · have hla : la o = none := by
      rw [a3] at hl
      exact (oI_none (fun i hi => by have := b3 i hi; omega)).mp hl
    refine rest (upd t1 (12 * kd o + e) (t1 (12 * kd o + e) + nI 1)) t3 _ (fc_set fr_id rfl) ?_ (fun ph' hf' hc' => hQ ph' hf' ?_)
    · refine ⟨va', kd', ow', st', la', bg', f0, upd f1 (kd o * 12 + e) (f1 (kd o * 12 + e) + nI 1), f2, f3, ?_, ?_, ⟨?_, ?_, ?_, ?_, ?_, ?_⟩, ⟨?_, ?_, ?_, ?_⟩, v1, v2, v3, v4, by rw [Nat.mul_comm]; exact up_t v5 (by omega), v6, v7⟩
      all_goals simp only [px_put_self, px_put_ne, h88, h89, h90, h91, h92, h93, h94, h95, h96, h97, h98, h99, Nat.reduceEqDiff, not_false_eq_true, Option.map_some]
    · unfold caS bkS
      simp only [hla]
      exact hc'
  · have hla : la o = some j := by
      rw [a3] at hl
      exact (oI_some (by omega) (fun i hi => by have := b3 i hi; omega)).mp hl
    refine rest t1 (upd t3 (12 * (12 * kd o + j) + e) (t3 (12 * (12 * kd o + j) + e) + nI 1)) _ (fc_set fr_id rfl) ?_ (fun ph' hf' hc' => hQ ph' hf' ?_)
    · refine ⟨va', kd', ow', st', la', bg', f0, f1, f2, upd f3 ((kd o * 12 + j) * 12 + e) (f3 ((kd o * 12 + j) * 12 + e) + nI 1), ?_, ?_, ⟨?_, ?_, ?_, ?_, ?_, ?_⟩, ⟨?_, ?_, ?_, ?_⟩, v1, v2, v3, v4, v5, v6, by rw [show (kd o * 12 + j) * 12 + e = 12 * (12 * kd o + j) + e by omega]; exact up_t v7 (by omega)⟩
      all_goals simp only [px_put_self, px_put_ne, h88, h89, h90, h91, h92, h93, h94, h95, h96, h97, h98, h99, Nat.reduceEqDiff, not_false_eq_true, Option.map_some]
    · unfold caS bkS
      simp only [hla]
      exact hc'
set_option maxRecDepth 100000 in
set_option maxHeartbeats 4000000 in
theorem c_W_putIntoBag {s : DS} {o : Option Nat} (hn : n < 200) (hw : wD sn n s) (ho : ∀ j, o = some j → j < s.2.1.1) (h : cD kind bk s ph) (hQ : ∀ ph', fr FC ph ph' → cD kind bk (puS s o) ph' → Q none ph') : px_Met G mX4_putIntoBag d 0 0 [.ref 88, .int (oI o)] ph Q := by
  obtain ⟨x, ⟨ob, kd, ow, la, st, br⟩, ⟨va, bn, bg⟩, ⟨t0, t1, t2, t3⟩⟩ := s
  have h0 := h
  obtain ⟨va', kd', ow', st', la', bg', f0, f1, f2, f3, h88, h89, ⟨h94, h95, h96, h97, h98, h99⟩, ⟨h90, h91, h92, h93⟩, v1, v2, v3, v4⟩ := h
  obtain ⟨w1, w2, w3, w4, w5⟩ := hw
  refine px_start kX4_putIntoBag (Nat.le_of_ble_eq_true rfl) ?_
  show px_W G _ _ _ _ _ 0 0 0 [some (.ref 88), some (.int (oI o)), none] [] ph
  have loop : ∀ (r i : Nat), i + r = bn → (∀ y, o = some y → mtB bg i y = false) → px_W G mX4_putIntoBag d 0 0 Q 0 0 2 [some (.ref 88), some (.int (oI o)), some (.int (nI i))] [] ph := by
    intro r
    induction r with
    | zero =>
      intro i hi hno
      have hib : i = bn := by omega
      subst hib
      cases o with
      | none =>
        have o1 : oI none = -2 := rfl
        rw [o1]
        have hq := hQ ph fr_id h0
        (repeat (first | (refine px_st rfl rfl ?_; simp only [px_wp, px_at, px_set, px_set2, px_clr, px_ldi, px_ldl, px_lda, px_i1, px_i2, px_l1, px_l2, px_il, px_a1, px_r1, px_r2, px_ir, px_vir, px_g, px_v1, px_v2, px_gf, px_pf, px_ps, px_ar, px_nth, px_upd, px_zero, px_dfl, px_put_self, px_put_ne, px_sw, nI_add, pk_mul, true_and, and_true, Nat.reduceAdd, Nat.reduceLT, Nat.reduceEqDiff, List.length_cons, List.length_nil, true_or, or_true, List.set_set, ne_eq, not_false_eq_true, Fin.isValue, Fin.val_zero, Fin.val_one, Fin.val_two, reduceCtorEq, Option.map_some, List.length_set, Nat.zero_lt_succ, Option.toList_some, Option.toList_none, List.cons_append, List.nil_append, px_b_2, IA, LA, BA, ZA, QA, PT, DR, TL, MC, CD, CC, false_and, or_false, false_or, nar_b, nar_0, nar_1, nar_y, h88]) | (refine ⟨_, rfl, by omega, ?_⟩) | (refine ⟨fun h => absurd h (nI_nlt (by omega) (by omega)), fun _ => ?_⟩) | (refine ⟨fun _ => ?_, fun h => absurd h (nI_nlt (by omega) (by omega))⟩) | (refine ⟨fun h => absurd (nI_lt (by omega) (by omega)) h, fun _ => ?_⟩) | (refine ⟨fun _ => ?_, fun h => absurd (nI_lt (by omega) (by omega)) h⟩) | (refine ⟨fun h => absurd ((nI_eq (by omega) (by omega)).mp h) (by omega), fun _ => ?_⟩) | (refine ⟨fun _ => ?_, fun h => absurd ((nI_eq (by omega) (by omega)).mp h) (by omega)⟩) | (refine ⟨fun h => absurd h (by decide), fun _ => ?_⟩) | (refine ⟨fun _ => ?_, fun h => absurd h (by decide)⟩) | (refine ⟨fun h => absurd rfl h, fun _ => ?_⟩) | (refine ⟨fun _ => ?_, fun h => absurd rfl h⟩)))
        exact px_return rfl rfl (Nat.le_refl _) (Nat.le_refl _) hq
      | some y =>
        have o1 : oI (some y) = nI y := rfl
        have hy : y < ob := ho y rfl
        have hne : ¬ nI y = -2 := nI_m2 (by omega)
        rw [o1]
        (repeat (first | (refine ⟨fun q => absurd q hne, fun _ => ?_⟩) | (refine px_st rfl rfl ?_; simp only [px_wp, px_at, px_set, px_set2, px_clr, px_ldi, px_ldl, px_lda, px_i1, px_i2, px_l1, px_l2, px_il, px_a1, px_r1, px_r2, px_ir, px_vir, px_g, px_v1, px_v2, px_gf, px_pf, px_ps, px_ar, px_nth, px_upd, px_zero, px_dfl, px_put_self, px_put_ne, px_sw, nI_add, pk_mul, true_and, and_true, Nat.reduceAdd, Nat.reduceLT, Nat.reduceEqDiff, List.length_cons, List.length_nil, true_or, or_true, List.set_set, ne_eq, not_false_eq_true, Fin.isValue, Fin.val_zero, Fin.val_one, Fin.val_two, reduceCtorEq, Option.map_some, List.length_set, Nat.zero_lt_succ, Option.toList_some, Option.toList_none, List.cons_append, List.nil_append, px_b_2, IA, LA, BA, ZA, QA, PT, DR, TL, MC, CD, CC, false_and, or_false, false_or, nar_b, nar_0, nar_1, nar_y, h88, h99]) | (refine ⟨_, rfl, by omega, ?_⟩) | (refine ⟨fun h => absurd h (nI_nlt (by omega) (by omega)), fun _ => ?_⟩) | (refine ⟨fun _ => ?_, fun h => absurd h (nI_nlt (by omega) (by omega))⟩) | (refine ⟨fun h => absurd (nI_lt (by omega) (by omega)) h, fun _ => ?_⟩) | (refine ⟨fun _ => ?_, fun h => absurd (nI_lt (by omega) (by omega)) h⟩) | (refine ⟨fun h => absurd ((nI_eq (by omega) (by omega)).mp h) (by omega), fun _ => ?_⟩) | (refine ⟨fun _ => ?_, fun h => absurd ((nI_eq (by omega) (by omega)).mp h) (by omega)⟩) | (refine ⟨fun h => absurd h (by decide), fun _ => ?_⟩) | (refine ⟨fun _ => ?_, fun h => absurd h (by decide)⟩) | (refine ⟨fun h => absurd rfl h, fun _ => ?_⟩) | (refine ⟨fun _ => ?_, fun h => absurd rfl h⟩)))
        refine px_return rfl rfl (Nat.le_refl _) (Nat.le_refl _) (hQ _ (fc_set (fc_set fr_id rfl) rfl) ?_)
        unfold puS
        simp only [hno y rfl]
        refine ⟨va', kd', ow', st', la', upd bg' i (nI y), f0, f1, f2, f3, ?_, ?_, ⟨?_, ?_, ?_, ?_, ?_, ?_⟩, ⟨?_, ?_, ?_, ?_⟩, v1, v2, fun j hj => ?_, v4⟩
        rotate_right 1
        · by_cases hji : j = i
          · subst hji; rw [pk_us, va_up_s]
          · rw [va_up_n hji]; unfold upd; rw [if_neg hji]; exact v3 j (by omega)
        all_goals simp only [px_put_self, px_put_ne, h88, h89, h90, h91, h92, h93, h94, h95, h96, h97, h98, h99, Nat.reduceEqDiff, not_false_eq_true, Option.map_some]
    | succ r ih =>
      intro i hi hno
      have hbi := v3 i (by omega)
      have hb5 := w5 i (by omega)
      by_cases hoi : o = some (bg i)
      · rw [hoi]
        have o1 : oI (some (bg i)) = nI (bg i) := rfl
        rw [o1]
        have hin : mtB bg bn (bg i) = true := (mtB_iff bn).mpr ⟨i, by omega, rfl⟩
        have hq := hQ ph fr_id (by rw [hoi]; unfold puS; simp only [hin]; exact h0)
        (repeat (first | (refine px_st rfl rfl ?_; simp only [px_wp, px_at, px_set, px_set2, px_clr, px_ldi, px_ldl, px_lda, px_i1, px_i2, px_l1, px_l2, px_il, px_a1, px_r1, px_r2, px_ir, px_vir, px_g, px_v1, px_v2, px_gf, px_pf, px_ps, px_ar, px_nth, px_upd, px_zero, px_dfl, px_put_self, px_put_ne, px_sw, nI_add, pk_mul, true_and, and_true, Nat.reduceAdd, Nat.reduceLT, Nat.reduceEqDiff, List.length_cons, List.length_nil, true_or, or_true, List.set_set, ne_eq, not_false_eq_true, Fin.isValue, Fin.val_zero, Fin.val_one, Fin.val_two, reduceCtorEq, Option.map_some, List.length_set, Nat.zero_lt_succ, Option.toList_some, Option.toList_none, List.cons_append, List.nil_append, px_b_2, IA, LA, BA, ZA, QA, PT, DR, TL, MC, CD, CC, false_and, or_false, false_or, nar_b, nar_0, nar_1, nar_y, h88, h99, hbi]) | (refine ⟨_, rfl, by omega, ?_⟩) | (refine ⟨fun h => absurd h (nI_nlt (by omega) (by omega)), fun _ => ?_⟩) | (refine ⟨fun _ => ?_, fun h => absurd h (nI_nlt (by omega) (by omega))⟩) | (refine ⟨fun h => absurd (nI_lt (by omega) (by omega)) h, fun _ => ?_⟩) | (refine ⟨fun _ => ?_, fun h => absurd (nI_lt (by omega) (by omega)) h⟩) | (refine ⟨fun h => absurd ((nI_eq (by omega) (by omega)).mp h) (by omega), fun _ => ?_⟩) | (refine ⟨fun _ => ?_, fun h => absurd ((nI_eq (by omega) (by omega)).mp h) (by omega)⟩) | (refine ⟨fun h => absurd h (by decide), fun _ => ?_⟩) | (refine ⟨fun _ => ?_, fun h => absurd h (by decide)⟩) | (refine ⟨fun h => absurd rfl h, fun _ => ?_⟩) | (refine ⟨fun _ => ?_, fun h => absurd rfl h⟩)))
        exact px_return rfl rfl (Nat.le_refl _) (Nat.le_refl _) hq
      · have hne : ¬ nI (bg i) = oI o := fun q => hoi ((oI_some (by omega) (fun j hj => by have : j < ob := ho j hj; omega)).mp q.symm)
        have hih := ih (i + 1) (by omega) (fun y hy => by
          unfold mtB
          rw [hno y hy, Bool.false_or]
          exact decide_eq_false (fun q => hoi (by rw [hy, q])))
        (repeat (first | (first | exact hih | refine ⟨fun _ => ?_, fun q => absurd q hne⟩) | (refine px_st rfl rfl ?_; simp only [px_wp, px_at, px_set, px_set2, px_clr, px_ldi, px_ldl, px_lda, px_i1, px_i2, px_l1, px_l2, px_il, px_a1, px_r1, px_r2, px_ir, px_vir, px_g, px_v1, px_v2, px_gf, px_pf, px_ps, px_ar, px_nth, px_upd, px_zero, px_dfl, px_put_self, px_put_ne, px_sw, nI_add, pk_mul, true_and, and_true, Nat.reduceAdd, Nat.reduceLT, Nat.reduceEqDiff, List.length_cons, List.length_nil, true_or, or_true, List.set_set, ne_eq, not_false_eq_true, Fin.isValue, Fin.val_zero, Fin.val_one, Fin.val_two, reduceCtorEq, Option.map_some, List.length_set, Nat.zero_lt_succ, Option.toList_some, Option.toList_none, List.cons_append, List.nil_append, px_b_2, IA, LA, BA, ZA, QA, PT, DR, TL, MC, CD, CC, false_and, or_false, false_or, nar_b, nar_0, nar_1, nar_y, h88, h99, hbi]) | (refine ⟨_, rfl, by omega, ?_⟩) | (refine ⟨fun h => absurd h (nI_nlt (by omega) (by omega)), fun _ => ?_⟩) | (refine ⟨fun _ => ?_, fun h => absurd h (nI_nlt (by omega) (by omega))⟩) | (refine ⟨fun h => absurd (nI_lt (by omega) (by omega)) h, fun _ => ?_⟩) | (refine ⟨fun _ => ?_, fun h => absurd (nI_lt (by omega) (by omega)) h⟩) | (refine ⟨fun h => absurd ((nI_eq (by omega) (by omega)).mp h) (by omega), fun _ => ?_⟩) | (refine ⟨fun _ => ?_, fun h => absurd ((nI_eq (by omega) (by omega)).mp h) (by omega)⟩) | (refine ⟨fun h => absurd h (by decide), fun _ => ?_⟩) | (refine ⟨fun _ => ?_, fun h => absurd h (by decide)⟩) | (refine ⟨fun h => absurd rfl h, fun _ => ?_⟩) | (refine ⟨fun _ => ?_, fun h => absurd rfl h⟩)))
  (repeat (first | (exact loop bn 0 (by omega) (fun _ _ => rfl)) | (refine ⟨_, rfl, by omega, ?_⟩) | (refine px_st rfl rfl ?_; simp only [px_wp, px_at, px_set, px_set2, px_clr, px_ldi, px_ldl, px_lda, px_i1, px_i2, px_l1, px_l2, px_il, px_a1, px_r1, px_r2, px_ir, px_vir, px_g, px_v1, px_v2, px_gf, px_pf, px_ps, px_ar, px_nth, px_upd, px_zero, px_dfl, px_put_self, px_put_ne, px_sw, nI_add, pk_mul, true_and, and_true, Nat.reduceAdd, Nat.reduceLT, Nat.reduceEqDiff, List.length_cons, List.length_nil, true_or, or_true, List.set_set, ne_eq, not_false_eq_true, Fin.isValue, Fin.val_zero, Fin.val_one, Fin.val_two, reduceCtorEq, Option.map_some, List.length_set, Nat.zero_lt_succ, Option.toList_some, Option.toList_none, List.cons_append, List.nil_append, px_b_2, IA, LA, BA, ZA, QA, PT, DR, TL, MC, CD, CC, false_and, or_false, false_or, nar_b, nar_0, nar_1, nar_y])))
set_option maxRecDepth 100000 in
set_option maxHeartbeats 4000000 in
theorem c_W_drawFromBag {s : DS} (hn : n ≤ 200) (hw : wD sn n s) (h : cD kind bk s ph) (hQ : ∀ (y : Int32) (w : Option Nat), (∀ v, geS s v = (y, s.2.1, (va_up s.2.2.1.1 v w, s.2.2.1.2), s.2.2.2)) → (∀ j, w = some j → j < s.2.1.1) → ∀ ph', fr FC ph ph' → cD kind bk (y, s.2) ph' → Q (some (.int (oI w))) ph') : px_Met G mX4_drawFromBag (d + 1) 0 0 [.ref 88] ph Q := by
  obtain ⟨x, ⟨ob, kd, ow, la, st, br⟩, ⟨va, bn, bg⟩, ⟨t0, t1, t2, t3⟩⟩ := s
  have h0 := h
  obtain ⟨va', kd', ow', st', la', bg', f0, f1, f2, f3, h88, h89, ⟨h94, h95, h96, h97, h98, h99⟩, ⟨h90, h91, h92, h93⟩, v1, v2, v3, v4⟩ := h
  obtain ⟨w1, w2, w3, w4, w5⟩ := hw
  refine px_start kX4_drawFromBag (Nat.le_of_ble_eq_true rfl) ?_
  show px_W G _ _ _ _ _ 0 0 0 [some (.ref 88)] [] ph
  by_cases hb0 : bn = 0
  · have hq := hQ x none (fun v => by unfold geS; simp only; rw [if_pos hb0]) (fun j hj => by cases hj) ph fr_id h0
    subst hb0
    (repeat (first | (refine px_st rfl rfl ?_; simp only [px_wp, px_at, px_set, px_set2, px_clr, px_ldi, px_ldl, px_lda, px_i1, px_i2, px_l1, px_l2, px_il, px_a1, px_r1, px_r2, px_ir, px_vir, px_g, px_v1, px_v2, px_gf, px_pf, px_ps, px_ar, px_nth, px_upd, px_zero, px_dfl, px_put_self, px_put_ne, px_sw, nI_add, pk_mul, true_and, and_true, Nat.reduceAdd, Nat.reduceLT, Nat.reduceEqDiff, List.length_cons, List.length_nil, true_or, or_true, List.set_set, ne_eq, not_false_eq_true, Fin.isValue, Fin.val_zero, Fin.val_one, Fin.val_two, reduceCtorEq, Option.map_some, List.length_set, Nat.zero_lt_succ, Option.toList_some, Option.toList_none, List.cons_append, List.nil_append, px_b_2, IA, LA, BA, ZA, QA, PT, DR, TL, MC, CD, CC, false_and, or_false, false_or, nar_b, nar_0, nar_1, nar_y, h88]) | (refine ⟨_, rfl, by omega, ?_⟩) | (refine ⟨fun h => absurd h (nI_nlt (by omega) (by omega)), fun _ => ?_⟩) | (refine ⟨fun _ => ?_, fun h => absurd h (nI_nlt (by omega) (by omega))⟩) | (refine ⟨fun h => absurd (nI_lt (by omega) (by omega)) h, fun _ => ?_⟩) | (refine ⟨fun _ => ?_, fun h => absurd (nI_lt (by omega) (by omega)) h⟩) | (refine ⟨fun h => absurd ((nI_eq (by omega) (by omega)).mp h) (by omega), fun _ => ?_⟩) | (refine ⟨fun _ => ?_, fun h => absurd ((nI_eq (by omega) (by omega)).mp h) (by omega)⟩) | (refine ⟨fun h => absurd h (by decide), fun _ => ?_⟩) | (refine ⟨fun _ => ?_, fun h => absurd h (by decide)⟩) | (refine ⟨fun h => absurd rfl h, fun _ => ?_⟩) | (refine ⟨fun _ => ?_, fun h => absurd rfl h⟩)))
    exact px_ireturn rfl (Or.inl rfl) (Nat.le_refl _) (Nat.le_refl _) hq
  by_cases hb1 : bn = 1
  · have hb := v3 0 (by omega)
    have hq := hQ x (some (bg 0)) (fun v => by unfold geS; simp only; rw [if_neg hb0, if_pos hb1]) (fun j hj => by cases hj; exact w5 0 (by omega)) ph fr_id h0
    subst hb1
    (repeat (first | (refine px_st rfl rfl ?_; simp only [px_wp, px_at, px_set, px_set2, px_clr, px_ldi, px_ldl, px_lda, px_i1, px_i2, px_l1, px_l2, px_il, px_a1, px_r1, px_r2, px_ir, px_vir, px_g, px_v1, px_v2, px_gf, px_pf, px_ps, px_ar, px_nth, px_upd, px_zero, px_dfl, px_put_self, px_put_ne, px_sw, nI_add, pk_mul, true_and, and_true, Nat.reduceAdd, Nat.reduceLT, Nat.reduceEqDiff, List.length_cons, List.length_nil, true_or, or_true, List.set_set, ne_eq, not_false_eq_true, Fin.isValue, Fin.val_zero, Fin.val_one, Fin.val_two, reduceCtorEq, Option.map_some, List.length_set, Nat.zero_lt_succ, Option.toList_some, Option.toList_none, List.cons_append, List.nil_append, px_b_2, IA, LA, BA, ZA, QA, PT, DR, TL, MC, CD, CC, false_and, or_false, false_or, nar_b, nar_0, nar_1, nar_y, h88, h99]) | (refine ⟨_, rfl, by omega, ?_⟩) | (refine ⟨fun h => absurd h (nI_nlt (by omega) (by omega)), fun _ => ?_⟩) | (refine ⟨fun _ => ?_, fun h => absurd h (nI_nlt (by omega) (by omega))⟩) | (refine ⟨fun h => absurd (nI_lt (by omega) (by omega)) h, fun _ => ?_⟩) | (refine ⟨fun _ => ?_, fun h => absurd (nI_lt (by omega) (by omega)) h⟩) | (refine ⟨fun h => absurd ((nI_eq (by omega) (by omega)).mp h) (by omega), fun _ => ?_⟩) | (refine ⟨fun _ => ?_, fun h => absurd ((nI_eq (by omega) (by omega)).mp h) (by omega)⟩) | (refine ⟨fun h => absurd h (by decide), fun _ => ?_⟩) | (refine ⟨fun _ => ?_, fun h => absurd h (by decide)⟩) | (refine ⟨fun h => absurd rfl h, fun _ => ?_⟩) | (refine ⟨fun _ => ?_, fun h => absurd rfl h⟩)))
    rw [hb]
    exact px_ireturn rfl (Or.inl rfl) (Nat.le_refl _) (Nat.le_refl _) hq
  (repeat (first | (refine px_st rfl rfl ?_; simp only [px_wp, px_at, px_set, px_set2, px_clr, px_ldi, px_ldl, px_lda, px_i1, px_i2, px_l1, px_l2, px_il, px_a1, px_r1, px_r2, px_ir, px_vir, px_g, px_v1, px_v2, px_gf, px_pf, px_ps, px_ar, px_nth, px_upd, px_zero, px_dfl, px_put_self, px_put_ne, px_sw, nI_add, pk_mul, true_and, and_true, Nat.reduceAdd, Nat.reduceLT, Nat.reduceEqDiff, List.length_cons, List.length_nil, true_or, or_true, List.set_set, ne_eq, not_false_eq_true, Fin.isValue, Fin.val_zero, Fin.val_one, Fin.val_two, reduceCtorEq, Option.map_some, List.length_set, Nat.zero_lt_succ, Option.toList_some, Option.toList_none, List.cons_append, List.nil_append, px_b_2, IA, LA, BA, ZA, QA, PT, DR, TL, MC, CD, CC, false_and, or_false, false_or, nar_b, nar_0, nar_1, nar_y, h88]) | (refine ⟨_, rfl, by omega, ?_⟩) | (refine ⟨fun h => absurd h (nI_nlt (by omega) (by omega)), fun _ => ?_⟩) | (refine ⟨fun _ => ?_, fun h => absurd h (nI_nlt (by omega) (by omega))⟩) | (refine ⟨fun h => absurd (nI_lt (by omega) (by omega)) h, fun _ => ?_⟩) | (refine ⟨fun _ => ?_, fun h => absurd (nI_lt (by omega) (by omega)) h⟩) | (refine ⟨fun h => absurd ((nI_eq (by omega) (by omega)).mp h) (by omega), fun _ => ?_⟩) | (refine ⟨fun _ => ?_, fun h => absurd ((nI_eq (by omega) (by omega)).mp h) (by omega)⟩) | (refine ⟨fun h => absurd h (by decide), fun _ => ?_⟩) | (refine ⟨fun _ => ?_, fun h => absurd h (by decide)⟩) | (refine ⟨fun h => absurd rfl h, fun _ => ?_⟩) | (refine ⟨fun _ => ?_, fun h => absurd rfl h⟩)))
  refine px_cV rfl rfl kX4_drawNumber rfl (c_W_drawNumber h0 (fun ph' hf' hc' => ?_)) (Nat.le_refl _) h88 rfl rfl rfl (Nat.le_of_ble_eq_true rfl) (Nat.zero_le _) (Nat.zero_le _)
  have hm : drN (drX x) % bn < bn := Nat.mod_lt _ (by omega)
  have hq := hQ (drX x) (some (bg (drN (drX x) % bn))) (fun v => by unfold geS; simp only; rw [if_neg hb0, if_neg hb1]) (fun j hj => by cases hj; exact w5 _ hm) ph' hf' hc'
  have hlt : drN (drX x) < 65536 := by
    unfold drN
    have := (drX x).toBitVec.isLt
    omega
  have hrem : nI (drN (drX x)) - nI (drN (drX x)) / nI bn * nI bn = nI (drN (drX x) % bn) := pk_rem (by omega) (by omega) (by omega)
  have hne : ¬ nI bn = nI 0 := fun q => by have := (nI_eq (by omega) (by omega)).mp q; omega
  show px_W G _ _ _ _ _ _ _ _ _ [Value.int (nI (drN (drX x))), Value.ref 99] ph'
  obtain ⟨va', kd', ow', st', la', bg', f0, f1, f2, f3, h88, h89, ⟨h94, h95, h96, h97, h98, h99⟩, ⟨h90, h91, h92, h93⟩, v1, v2, v3, v4⟩ := hc'
  have hb := v3 _ hm
  generalize drN (drX x) = N at hrem hb hq hm hlt ⊢
  (repeat (first | (refine ⟨hne, ?_⟩) | (refine px_st rfl rfl ?_; simp only [px_wp, px_at, px_set, px_set2, px_clr, px_ldi, px_ldl, px_lda, px_i1, px_i2, px_l1, px_l2, px_il, px_a1, px_r1, px_r2, px_ir, px_vir, px_g, px_v1, px_v2, px_gf, px_pf, px_ps, px_ar, px_nth, px_upd, px_zero, px_dfl, px_put_self, px_put_ne, px_sw, nI_add, pk_mul, true_and, and_true, Nat.reduceAdd, Nat.reduceLT, Nat.reduceEqDiff, List.length_cons, List.length_nil, true_or, or_true, List.set_set, ne_eq, not_false_eq_true, Fin.isValue, Fin.val_zero, Fin.val_one, Fin.val_two, reduceCtorEq, Option.map_some, List.length_set, Nat.zero_lt_succ, Option.toList_some, Option.toList_none, List.cons_append, List.nil_append, px_b_2, IA, LA, BA, ZA, QA, PT, DR, TL, MC, CD, CC, false_and, or_false, false_or, nar_b, nar_0, nar_1, nar_y, h88, h99, hrem]) | (refine ⟨_, rfl, by omega, ?_⟩) | (refine ⟨fun h => absurd h (nI_nlt (by omega) (by omega)), fun _ => ?_⟩) | (refine ⟨fun _ => ?_, fun h => absurd h (nI_nlt (by omega) (by omega))⟩) | (refine ⟨fun h => absurd (nI_lt (by omega) (by omega)) h, fun _ => ?_⟩) | (refine ⟨fun _ => ?_, fun h => absurd (nI_lt (by omega) (by omega)) h⟩) | (refine ⟨fun h => absurd ((nI_eq (by omega) (by omega)).mp h) (by omega), fun _ => ?_⟩) | (refine ⟨fun _ => ?_, fun h => absurd ((nI_eq (by omega) (by omega)).mp h) (by omega)⟩) | (refine ⟨fun h => absurd h (by decide), fun _ => ?_⟩) | (refine ⟨fun _ => ?_, fun h => absurd h (by decide)⟩) | (refine ⟨fun h => absurd rfl h, fun _ => ?_⟩) | (refine ⟨fun _ => ?_, fun h => absurd rfl h⟩)))
  rw [hb]
  exact px_ireturn rfl (Or.inl rfl) (Nat.le_refl _) (Nat.le_refl _) hq
end DRX
