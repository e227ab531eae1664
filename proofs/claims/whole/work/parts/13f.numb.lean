/-- a state's row of the least machine: events from e on; new groups get the next number -/
def nmE (nx : Nat → Nat → Option Nat) (g : Nat → Nat) (u node : Nat) : Nat → Nat → Nat → (Nat → Option Nat) → (Nat → Nat) → (Nat → Option Nat) → Nat × (Nat → Option Nat) × (Nat → Nat) × (Nat → Option Nat)
  | 0, _, kn, nb, hd, ln => (kn, nb, hd, ln)
  | m + 1, e, kn, nb, hd, ln => match nx node e with
    | none => nmE nx g u node m (e + 1) kn nb hd (va_up ln (u * 24 + e) none)
    | some t => if nb (g t) = none ∧ kn < 24 then nmE nx g u node m (e + 1) (kn + 1) (va_up nb (g t) (some kn)) (va_up hd kn t) (va_up ln (u * 24 + e) (some kn)) else nmE nx g u node m (e + 1) kn nb hd (va_up ln (u * 24 + e) (nb (g t)))
/-- the least machine, states from u on -/
def nmS (nx : Nat → Nat → Option Nat) (g : Nat → Nat) (en : Nat → Bool) (gr : Nat) : Nat → Nat → Nat → (Nat → Option Nat) → (Nat → Nat) → (Nat → Option Nat) → (Nat → Bool) → Nat × (Nat → Option Nat) × (Nat → Bool)
  | 0, _, kn, _, _, ln, le => (kn, ln, le)
  | m + 1, u, kn, nb, hd, ln, le => if u < kn ∧ u < gr then nmS nx g en gr m (u + 1) (nmE nx g u (hd u) 24 0 kn nb hd ln).1 (nmE nx g u (hd u) 24 0 kn nb hd ln).2.1 (nmE nx g u (hd u) 24 0 kn nb hd ln).2.2.1 (nmE nx g u (hd u) 24 0 kn nb hd ln).2.2.2 (va_up le u (en (hd u))) else (kn, ln, le)
abbrev nH (ph : List px_E) (y na la lea : Nat → Int32) : List px_E := (((ph.set 40 (IA 24 y)).set 41 (IA 24 na)).set 42 (IA 576 la)).set 43 (IA 24 lea)
def nR (c gr kn : Nat) (nb : Nat → Option Nat) (hd : Nat → Nat) (ln : Nat → Option Nat) (y na la : Nat → Int32) (lim : Nat) : Prop := 1 ≤ kn ∧ kn ≤ 24 ∧ (∀ k, k < 24 → na k = oI (nb k)) ∧ (∀ k j, nb k = some j → j < 24) ∧ (∀ k, k < kn → y k = nI (hd k) ∧ hd k < c) ∧ (∀ i, i < lim → la i = oI (ln i)) ∧ (∀ i, i < kn → ∃ k, k < gr ∧ nb k = some i)
theorem oI_up {a : Nat → Int32} {b : Nat → Option Nat} {k n : Nat} {v : Int32} {w : Option Nat} (h : ∀ j, j < n → a j = oI (b j)) (hv : v = oI w) : ∀ j, j < n → upd a k v j = oI (va_up b k w j) := fun j hj => by
  by_cases hjk : j = k
  · subst hjk; simp [upd, va_up, hv]
  · simp [upd, va_up, hjk]; exact h j hj
theorem oI_up1 {a : Nat → Int32} {b : Nat → Option Nat} {n : Nat} {v : Int32} {w : Option Nat} (h : ∀ j, j < n → a j = oI (b j)) (hv : v = oI w) : ∀ j, j < n + 1 → upd a n v j = oI (va_up b n w j) := fun j hj => by
  by_cases hjk : j = n
  · subst hjk; simp [upd, va_up, hv]
  · simp [upd, va_up, hjk]; exact h j (by omega)
section NUM
variable {G : px_G} {ph : List px_E} {d c gr : Nat} {Q : Option Value → List px_E → Prop} {f ea ga y0 n0 l0 e0 : Nat → Int32} {nx : Nat → Nat → Option Nat} {g : Nat → Nat} {en : Nat → Bool}
set_option maxRecDepth 100000 in
set_option maxHeartbeats 4000000 in
theorem c_nmE {u node : Nat} {lea : Nat → Int32} (hc : c ≤ 100) (hgr : gr ≤ 24) (hu : u < 24) (hnode : node < c) (h35 : ph[35]? = some (DR c)) (h36 : ph[36]? = some (IA 2400 f)) (h38 : ph[38]? = some (IA 100 ga)) (h40 : ph[40]? = some (IA 24 y0)) (h41 : ph[41]? = some (IA 24 n0)) (h42 : ph[42]? = some (IA 576 l0)) (h43 : ph[43]? = some (IA 24 e0)) (hf : RNX c f nx) (hg : RG c ga g) (hgl : ∀ i, i < c → g i < gr) :
    ∀ (m e kn : Nat) (nb : Nat → Option Nat) (hd : Nat → Nat) (ln : Nat → Option Nat) (y na la : Nat → Int32) (x6 : Option Value), e + m = 24 → nR c gr kn nb hd ln y na la (u * 24 + e) →
      (∀ (y' na' la' : Nat → Int32) (x6' : Option Value), nR c gr (nmE nx g u node m e kn nb hd ln).1 (nmE nx g u node m e kn nb hd ln).2.1 (nmE nx g u node m e kn nb hd ln).2.2.1 (nmE nx g u node m e kn nb hd ln).2.2.2 y' na' la' (u * 24 + 24) → px_W G mX3_numbered (d + 2) 3 604 Q 0 0 175 [some (.ref 35), some (.int (nI gr)), some (.int (nI (nmE nx g u node m e kn nb hd ln).1)), some (.int (nI u)), some (.int (nI node)), some (.int (nI 24)), x6'] [] (nH ph y' na' la' lea)) →
      px_W G mX3_numbered (d + 2) 3 604 Q 0 0 66 [some (.ref 35), some (.int (nI gr)), some (.int (nI kn)), some (.int (nI u)), some (.int (nI node)), some (.int (nI e)), x6] [] (nH ph y na la lea) := by
  intro m
  induction m with
  | zero =>
    intro e kn nb hd ln y na la x6 he hR kk
    have he24 : e = 24 := by omega
    subst he24
    (repeat (first | (refine ⟨_, rfl, by omega, ?_⟩) | (refine px_st rfl rfl ?_; simp only [px_wp, px_at, px_set, px_set2, px_clr, px_ldi, px_ldl, px_lda, px_i1, px_i2, px_l1, px_l2, px_il, px_a1, px_r1, px_r2, px_ir, px_vir, px_g, px_v1, px_v2, px_gf, px_pf, px_ps, px_ar, px_nth, px_upd, px_zero, px_dfl, px_put_self, px_put_ne, px_sw, nI_add, pk_mul, true_and, and_true, Nat.reduceAdd, Nat.reduceLT, Nat.reduceEqDiff, List.length_cons, List.length_nil, true_or, or_true, List.set_set, ne_eq, not_false_eq_true, Fin.isValue, Fin.val_zero, Fin.val_one, Fin.val_two, reduceCtorEq, Option.map_some, List.length_set, Nat.zero_lt_succ, Option.toList_some, Option.toList_none, List.cons_append, List.nil_append, px_b_2, IA, LA, BA, ZA, QA, PT, DR, TL, MC, CD, CC])))
    refine ⟨fun _ => ?_, fun h => absurd h (by decide)⟩
    exact kk y na la x6 hR
  | succ m ih =>
    intro e kn nb hd ln y na la x6 he hR kk
    obtain ⟨r0, r1, r2, r3, r4, r5, r6⟩ := hR
    (repeat (first | (refine ⟨_, rfl, by omega, ?_⟩) | (refine px_st rfl rfl ?_; simp only [px_wp, px_at, px_set, px_set2, px_clr, px_ldi, px_ldl, px_lda, px_i1, px_i2, px_l1, px_l2, px_il, px_a1, px_r1, px_r2, px_ir, px_vir, px_g, px_v1, px_v2, px_gf, px_pf, px_ps, px_ar, px_nth, px_upd, px_zero, px_dfl, px_put_self, px_put_ne, px_sw, nI_add, pk_mul, true_and, and_true, Nat.reduceAdd, Nat.reduceLT, Nat.reduceEqDiff, List.length_cons, List.length_nil, true_or, or_true, List.set_set, ne_eq, not_false_eq_true, Fin.isValue, Fin.val_zero, Fin.val_one, Fin.val_two, reduceCtorEq, Option.map_some, List.length_set, Nat.zero_lt_succ, Option.toList_some, Option.toList_none, List.cons_append, List.nil_append, px_b_2, IA, LA, BA, ZA, QA, PT, DR, TL, MC, CD, CC])))
    refine ⟨fun h => absurd (nI_lt (by omega) (by omega)) h, fun _ => ?_⟩
    (repeat (first | (refine ⟨_, rfl, by omega, ?_⟩) | (refine px_st rfl rfl ?_; simp only [px_wp, px_at, px_set, px_set2, px_clr, px_ldi, px_ldl, px_lda, px_i1, px_i2, px_l1, px_l2, px_il, px_a1, px_r1, px_r2, px_ir, px_vir, px_g, px_v1, px_v2, px_gf, px_pf, px_ps, px_ar, px_nth, px_upd, px_zero, px_dfl, px_put_self, px_put_ne, px_sw, nI_add, pk_mul, true_and, and_true, Nat.reduceAdd, Nat.reduceLT, Nat.reduceEqDiff, List.length_cons, List.length_nil, true_or, or_true, List.set_set, ne_eq, not_false_eq_true, Fin.isValue, Fin.val_zero, Fin.val_one, Fin.val_two, reduceCtorEq, Option.map_some, List.length_set, Nat.zero_lt_succ, Option.toList_some, Option.toList_none, List.cons_append, List.nil_append, px_b_2, IA, LA, BA, ZA, QA, PT, DR, TL, MC, CD, CC])))
    have e35 : (nH ph y na la lea)[35]? = some (DR c) := (px_put_ne (by decide)).trans ((px_put_ne (by decide)).trans ((px_put_ne (by decide)).trans ((px_put_ne (by decide)).trans h35)))
    have e36 : (nH ph y na la lea)[36]? = some (IA 2400 f) := (px_put_ne (by decide)).trans ((px_put_ne (by decide)).trans ((px_put_ne (by decide)).trans ((px_put_ne (by decide)).trans h36)))
    have e38 : (nH ph y na la lea)[38]? = some (IA 100 ga) := (px_put_ne (by decide)).trans ((px_put_ne (by decide)).trans ((px_put_ne (by decide)).trans ((px_put_ne (by decide)).trans h38)))
    refine px_cV rfl rfl kX3_groupBehind rfl (c_D_groupBehind hc e35 e36 e38 hf hg hnode (show e < 24 by omega) ?_) (Nat.le_refl _) e35 rfl rfl rfl (Nat.le_of_ble_eq_true rfl) (Nat.zero_le _) (Nat.zero_le _)
    obtain ⟨hf1, hf2⟩ := hf node hnode e (by omega)
    unfold nmE at kk
    cases ht : nx node e with
    | none =>
      rw [ht] at kk
      simp only at kk
      (repeat (first | (refine ⟨_, rfl, by omega, ?_⟩) | (refine px_st rfl rfl ?_; simp only [px_wp, px_at, px_set, px_set2, px_clr, px_ldi, px_ldl, px_lda, px_i1, px_i2, px_l1, px_l2, px_il, px_a1, px_r1, px_r2, px_ir, px_vir, px_g, px_v1, px_v2, px_gf, px_pf, px_ps, px_ar, px_nth, px_upd, px_zero, px_dfl, px_put_self, px_put_ne, px_sw, nI_add, pk_mul, true_and, and_true, Nat.reduceAdd, Nat.reduceLT, Nat.reduceEqDiff, List.length_cons, List.length_nil, true_or, or_true, List.set_set, ne_eq, not_false_eq_true, Fin.isValue, Fin.val_zero, Fin.val_one, Fin.val_two, reduceCtorEq, Option.map_some, List.length_set, Nat.zero_lt_succ, Option.toList_some, Option.toList_none, List.cons_append, List.nil_append, px_b_2, IA, LA, BA, ZA, QA, PT, DR, TL, MC, CD, CC, nH])))
      refine ⟨fun _ => ?_, fun h => absurd rfl h⟩
      (repeat (first | (refine ⟨_, rfl, by omega, ?_⟩) | (refine px_st rfl rfl ?_; simp only [px_wp, px_at, px_set, px_set2, px_clr, px_ldi, px_ldl, px_lda, px_i1, px_i2, px_l1, px_l2, px_il, px_a1, px_r1, px_r2, px_ir, px_vir, px_g, px_v1, px_v2, px_gf, px_pf, px_ps, px_ar, px_nth, px_upd, px_zero, px_dfl, px_put_self, px_put_ne, px_sw, nI_add, pk_mul, true_and, and_true, Nat.reduceAdd, Nat.reduceLT, Nat.reduceEqDiff, List.length_cons, List.length_nil, true_or, or_true, List.set_set, ne_eq, not_false_eq_true, Fin.isValue, Fin.val_zero, Fin.val_one, Fin.val_two, reduceCtorEq, Option.map_some, List.length_set, Nat.zero_lt_succ, Option.toList_some, Option.toList_none, List.cons_append, List.nil_append, px_b_2, IA, LA, BA, ZA, QA, PT, DR, TL, MC, CD, CC, h35, h36, h38, h40, h41, h42, h43])))
      refine ⟨fun h => absurd rfl h, fun _ => ?_⟩
      have hR' : nR c gr kn nb hd (va_up ln (u * 24 + e) none) y na (upd la (u * 24 + e) (-2)) (u * 24 + (e + 1)) := ⟨r0, r1, r2, r3, r4, oI_up1 r5 rfl, r6⟩
      (repeat (first | (exact ih (e + 1) kn nb hd _ y na _ _ (by omega) hR' kk) | (refine ⟨_, rfl, by omega, ?_⟩) | (refine px_st rfl rfl ?_; simp only [px_wp, px_at, px_set, px_set2, px_clr, px_ldi, px_ldl, px_lda, px_i1, px_i2, px_l1, px_l2, px_il, px_a1, px_r1, px_r2, px_ir, px_vir, px_g, px_v1, px_v2, px_gf, px_pf, px_ps, px_ar, px_nth, px_upd, px_zero, px_dfl, px_put_self, px_put_ne, px_sw, nI_add, pk_mul, true_and, and_true, Nat.reduceAdd, Nat.reduceLT, Nat.reduceEqDiff, List.length_cons, List.length_nil, true_or, or_true, List.set_set, ne_eq, not_false_eq_true, Fin.isValue, Fin.val_zero, Fin.val_one, Fin.val_two, reduceCtorEq, Option.map_some, List.length_set, Nat.zero_lt_succ, Option.toList_some, Option.toList_none, List.cons_append, List.nil_append, px_b_2, IA, LA, BA, ZA, QA, PT, DR, TL, MC, CD, CC, h35, h36, h38, h40, h41, h42, h43])))
    | some t =>
      rw [ht] at kk
      simp only at kk
      have htc := hf2 t ht
      have hgt' := hgl t htc
      have hgt : g t < 24 := by omega
      have hft : f (node * 24 + e) = nI t := by rw [hf1, ht]; rfl
      (repeat (first | (refine ⟨_, rfl, by omega, ?_⟩) | (refine px_st rfl rfl ?_; simp only [px_wp, px_at, px_set, px_set2, px_clr, px_ldi, px_ldl, px_lda, px_i1, px_i2, px_l1, px_l2, px_il, px_a1, px_r1, px_r2, px_ir, px_vir, px_g, px_v1, px_v2, px_gf, px_pf, px_ps, px_ar, px_nth, px_upd, px_zero, px_dfl, px_put_self, px_put_ne, px_sw, nI_add, pk_mul, true_and, and_true, Nat.reduceAdd, Nat.reduceLT, Nat.reduceEqDiff, List.length_cons, List.length_nil, true_or, or_true, List.set_set, ne_eq, not_false_eq_true, Fin.isValue, Fin.val_zero, Fin.val_one, Fin.val_two, reduceCtorEq, Option.map_some, List.length_set, Nat.zero_lt_succ, Option.toList_some, Option.toList_none, List.cons_append, List.nil_append, px_b_2, IA, LA, BA, ZA, QA, PT, DR, TL, MC, CD, CC, nH])))
      refine ⟨fun h => absurd h (nI_m2 (by omega)), fun _ => ?_⟩
      have hna := r2 (g t) hgt
      (repeat (first | (refine ⟨_, rfl, by omega, ?_⟩) | (refine px_st rfl rfl ?_; simp only [px_wp, px_at, px_set, px_set2, px_clr, px_ldi, px_ldl, px_lda, px_i1, px_i2, px_l1, px_l2, px_il, px_a1, px_r1, px_r2, px_ir, px_vir, px_g, px_v1, px_v2, px_gf, px_pf, px_ps, px_ar, px_nth, px_upd, px_zero, px_dfl, px_put_self, px_put_ne, px_sw, nI_add, pk_mul, true_and, and_true, Nat.reduceAdd, Nat.reduceLT, Nat.reduceEqDiff, List.length_cons, List.length_nil, true_or, or_true, List.set_set, ne_eq, not_false_eq_true, Fin.isValue, Fin.val_zero, Fin.val_one, Fin.val_two, reduceCtorEq, Option.map_some, List.length_set, Nat.zero_lt_succ, Option.toList_some, Option.toList_none, List.cons_append, List.nil_append, px_b_2, IA, LA, BA, ZA, QA, PT, DR, TL, MC, CD, CC, h35, h36, h38, h40, h41, h42, h43])))
      have tail : ∀ (kn' : Nat) (nb' : Nat → Option Nat) (hd' : Nat → Nat) (y' na' : Nat → Int32), nR c gr kn' nb' hd' ln y' na' la (u * 24 + e) → (∀ (y'' na'' la'' : Nat → Int32) (x6' : Option Value), nR c gr (nmE nx g u node m (e + 1) kn' nb' hd' (va_up ln (u * 24 + e) (nb' (g t)))).1 (nmE nx g u node m (e + 1) kn' nb' hd' (va_up ln (u * 24 + e) (nb' (g t)))).2.1 (nmE nx g u node m (e + 1) kn' nb' hd' (va_up ln (u * 24 + e) (nb' (g t)))).2.2.1 (nmE nx g u node m (e + 1) kn' nb' hd' (va_up ln (u * 24 + e) (nb' (g t)))).2.2.2 y'' na'' la'' (u * 24 + 24) → px_W G mX3_numbered (d + 2) 3 604 Q 0 0 175 [some (.ref 35), some (.int (nI gr)), some (.int (nI (nmE nx g u node m (e + 1) kn' nb' hd' (va_up ln (u * 24 + e) (nb' (g t)))).1)), some (.int (nI u)), some (.int (nI node)), some (.int (nI 24)), x6'] [] (nH ph y'' na'' la'' lea)) → px_W G mX3_numbered (d + 2) 3 604 Q 0 0 138 [some (.ref 35), some (.int (nI gr)), some (.int (nI kn')), some (.int (nI u)), some (.int (nI node)), some (.int (nI e)), some (.int (nI (g t)))] [] (nH ph y' na' la lea) := by
        intro kn' nb' hd' y' na' hR2 kk2
        have hR' : nR c gr kn' nb' hd' (va_up ln (u * 24 + e) (nb' (g t))) y' na' (upd la (u * 24 + e) (na' (g t))) (u * 24 + (e + 1)) := ⟨hR2.1, hR2.2.1, hR2.2.2.1, hR2.2.2.2.1, hR2.2.2.2.2.1, oI_up1 hR2.2.2.2.2.2.1 (hR2.2.2.1 (g t) hgt), hR2.2.2.2.2.2.2⟩
        (repeat (first | (refine ⟨_, rfl, by omega, ?_⟩) | (refine px_st rfl rfl ?_; simp only [px_wp, px_at, px_set, px_set2, px_clr, px_ldi, px_ldl, px_lda, px_i1, px_i2, px_l1, px_l2, px_il, px_a1, px_r1, px_r2, px_ir, px_vir, px_g, px_v1, px_v2, px_gf, px_pf, px_ps, px_ar, px_nth, px_upd, px_zero, px_dfl, px_put_self, px_put_ne, px_sw, nI_add, pk_mul, true_and, and_true, Nat.reduceAdd, Nat.reduceLT, Nat.reduceEqDiff, List.length_cons, List.length_nil, true_or, or_true, List.set_set, ne_eq, not_false_eq_true, Fin.isValue, Fin.val_zero, Fin.val_one, Fin.val_two, reduceCtorEq, Option.map_some, List.length_set, Nat.zero_lt_succ, Option.toList_some, Option.toList_none, List.cons_append, List.nil_append, px_b_2, IA, LA, BA, ZA, QA, PT, DR, TL, MC, CD, CC, nH, h35, h36, h38, h40, h41, h42, h43])))
        refine ⟨fun _ => ?_, fun h => absurd h (nI_m2 (by omega))⟩
        (repeat (first | (exact ih (e + 1) kn' nb' hd' _ y' na' _ _ (by omega) hR' kk2) | (refine ⟨_, rfl, by omega, ?_⟩) | (refine px_st rfl rfl ?_; simp only [px_wp, px_at, px_set, px_set2, px_clr, px_ldi, px_ldl, px_lda, px_i1, px_i2, px_l1, px_l2, px_il, px_a1, px_r1, px_r2, px_ir, px_vir, px_g, px_v1, px_v2, px_gf, px_pf, px_ps, px_ar, px_nth, px_upd, px_zero, px_dfl, px_put_self, px_put_ne, px_sw, nI_add, pk_mul, true_and, and_true, Nat.reduceAdd, Nat.reduceLT, Nat.reduceEqDiff, List.length_cons, List.length_nil, true_or, or_true, List.set_set, ne_eq, not_false_eq_true, Fin.isValue, Fin.val_zero, Fin.val_one, Fin.val_two, reduceCtorEq, Option.map_some, List.length_set, Nat.zero_lt_succ, Option.toList_some, Option.toList_none, List.cons_append, List.nil_append, px_b_2, IA, LA, BA, ZA, QA, PT, DR, TL, MC, CD, CC, h35, h36, h38, h40, h41, h42, h43])))
      refine ⟨fun h => ?_, fun h => ?_⟩
      · have hnn : ¬ nb (g t) = none := fun q => h (by rw [hna, q]; rfl)
        rw [if_neg (fun q => hnn q.1)] at kk
        exact tail kn nb hd y na ⟨r0, r1, r2, r3, r4, r5, r6⟩ kk
      · have hnn : nb (g t) = none := by
          cases hb : nb (g t) with
          | none => rfl
          | some j =>
            rw [hna, hb] at h
            exact absurd h (nI_m2 (by have := r3 _ _ hb; omega))
        (repeat (first | (refine ⟨_, rfl, by omega, ?_⟩) | (refine px_st rfl rfl ?_; simp only [px_wp, px_at, px_set, px_set2, px_clr, px_ldi, px_ldl, px_lda, px_i1, px_i2, px_l1, px_l2, px_il, px_a1, px_r1, px_r2, px_ir, px_vir, px_g, px_v1, px_v2, px_gf, px_pf, px_ps, px_ar, px_nth, px_upd, px_zero, px_dfl, px_put_self, px_put_ne, px_sw, nI_add, pk_mul, true_and, and_true, Nat.reduceAdd, Nat.reduceLT, Nat.reduceEqDiff, List.length_cons, List.length_nil, true_or, or_true, List.set_set, ne_eq, not_false_eq_true, Fin.isValue, Fin.val_zero, Fin.val_one, Fin.val_two, reduceCtorEq, Option.map_some, List.length_set, Nat.zero_lt_succ, Option.toList_some, Option.toList_none, List.cons_append, List.nil_append, px_b_2, IA, LA, BA, ZA, QA, PT, DR, TL, MC, CD, CC])))
        refine ⟨fun h2 => ?_, fun h2 => ?_⟩
        · have hk24 : ¬ kn < 24 := fun q => h2 (nI_lt q (by omega))
          rw [if_neg (fun q => hk24 q.2)] at kk
          exact tail kn nb hd y na ⟨r0, r1, r2, r3, r4, r5, r6⟩ kk
        · have hk24 : kn < 24 := (nI_ltI (by omega) (by omega)).mp h2
          rw [if_pos ⟨hnn, hk24⟩] at kk
          have hR2 : nR c gr (kn + 1) (va_up nb (g t) (some kn)) (va_up hd kn t) ln (upd y kn (nI t)) (upd na (g t) (nI kn)) la (u * 24 + e) := by
            refine ⟨by omega, by omega, oI_up r2 rfl, fun k j hkj => ?_, fun k hk => ?_, r5, fun i hi => ?_⟩
            · by_cases hkg : k = g t
              · subst hkg; simp [va_up] at hkj; omega
              · simp [va_up, hkg] at hkj; exact r3 k j hkj
            · by_cases hkk : k = kn
              · subst hkk; exact ⟨by simp [upd, va_up], by simp [va_up]; exact htc⟩
              · simp [upd, va_up, hkk]; exact r4 k (by omega)
            · by_cases hik : i = kn
              · subst hik; exact ⟨g t, hgt', by simp [va_up]⟩
              · obtain ⟨k, hk, hnk⟩ := r6 i (by omega)
                refine ⟨k, hk, ?_⟩
                have hkg : ¬ k = g t := fun q => by rw [q, hnn] at hnk; cases hnk
                simp [va_up, hkg]; exact hnk
          have hself : va_up nb (g t) (some kn) (g t) = some kn := by simp [va_up]
          have tl := tail (kn + 1) (va_up nb (g t) (some kn)) (va_up hd kn t) (upd y kn (nI t)) (upd na (g t) (nI kn)) hR2
          rw [hself] at tl
          (repeat (first | (exact tl kk) | (refine ⟨_, rfl, by omega, ?_⟩) | (refine px_st rfl rfl ?_; simp only [px_wp, px_at, px_set, px_set2, px_clr, px_ldi, px_ldl, px_lda, px_i1, px_i2, px_l1, px_l2, px_il, px_a1, px_r1, px_r2, px_ir, px_vir, px_g, px_v1, px_v2, px_gf, px_pf, px_ps, px_ar, px_nth, px_upd, px_zero, px_dfl, px_put_self, px_put_ne, px_sw, nI_add, pk_mul, true_and, and_true, Nat.reduceAdd, Nat.reduceLT, Nat.reduceEqDiff, List.length_cons, List.length_nil, true_or, or_true, List.set_set, ne_eq, not_false_eq_true, Fin.isValue, Fin.val_zero, Fin.val_one, Fin.val_two, reduceCtorEq, Option.map_some, List.length_set, Nat.zero_lt_succ, Option.toList_some, Option.toList_none, List.cons_append, List.nil_append, px_b_2, IA, LA, BA, ZA, QA, PT, DR, TL, MC, CD, CC, h35, h36, h38, h40, h41, h42, h43, hft])))
end NUM
