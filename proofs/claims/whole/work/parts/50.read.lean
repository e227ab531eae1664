theorem pJn_no {x : PTt} : pJn pNo x = x := by
  obtain ⟨a, b, c, e, z⟩ := x
  unfold pJn pNo
  simp only [z_or, Bool.false_or]
theorem pLk_eq {pl : Nat} {x : PTt} {y : Int64} {f g : Nat → Int64} (h : ∀ i, i < pl → f i = g i) : ∀ i, i < pl → pLk pl x y f i = pLk pl x y g i := fun i hi => by
  unfold pLk
  rw [h i hi]
/-- the Model is where the reader is -/
def MR (s : PS) (im ip ir : Bool) (F : Nat → PTt) (ha : Nat → Bool) (mfl mfh : Nat → Int64) : Prop := match s with
  | (ah, dp, pl, al, rw, pc, _, fl, fh) => (∀ l, l ≤ dp → al l = if ha l then F (2 * l) else pNo) ∧ (∀ l, l < dp → rw l = F (2 * l + 1)) ∧ ((aEnd s).2.2.2.2.1 dp = tPF dp ip F (2 * dp + 1) ∧ ∀ i, i < pl → (aEnd s).2.2.2.2.2.2.2.1 i = tPl dp pl ip F (F 30).1 mfl i ∧ (aEnd s).2.2.2.2.2.2.2.2 i = tPl dp pl ip F (F 30).2.1 mfh i) ∧ ((ip = false ∨ ir = true) → ah = 0) ∧ (im = true → ip = true ∧ ir = false) ∧ (ip = true → ir = false → ah = (if im then 1 else 2) ∧ pc = F 30 ∧ rw dp = F (2 * dp + 1) ∧ ∀ i, i < pl → fl i = mfl i ∧ fh i = mfh i)
/-- with a piece ahead -/
theorem MR_pc {dp pl : Nat} {al rw : Nat → PTt} {pc : PTt} {tk : Nat → Nat} {fl fh : Nat → Int64} {im : Bool} {F : Nat → PTt} {ha : Nat → Bool} {mfl mfh : Nat → Int64} (h1 : ∀ l, l ≤ dp → al l = if ha l then F (2 * l) else pNo) (h2 : ∀ l, l ≤ dp → rw l = F (2 * l + 1)) (h3 : pc = F 30) (h4 : ∀ i, i < pl → fl i = mfl i ∧ fh i = mfh i) : MR (if im then 1 else 2, dp, pl, al, rw, pc, tk, fl, fh) im true false F ha mfl mfh := by
  refine ⟨h1, fun l hl => h2 l (by omega), ?_, fun q => (by rcases q with q | q <;> cases q), fun _ => ⟨rfl, rfl⟩, fun _ _ => ⟨rfl, h3, h2 dp (Nat.le_refl _), h4⟩⟩
  have hne : ¬ (if im then 1 else 2 : Nat) = 0 := by cases im <;> simp
  unfold aEnd
  simp only
  rw [if_neg hne]
  unfold tPF tPl
  rw [if_pos rfl, if_pos rfl, if_pos rfl]
  simp only
  rw [va_up_s, va_up_s, h2 dp (Nat.le_refl _), h3]
  exact ⟨rfl, fun i hi => ⟨pLk_eq (fun j hj => (h4 j hj).1) i hi, pLk_eq (fun j hj => (h4 j hj).2) i hi⟩⟩
/-- with none -/
theorem MR_no {dp pl : Nat} {al rw : Nat → PTt} {pc : PTt} {tk : Nat → Nat} {fl fh : Nat → Int64} {ir : Bool} {F : Nat → PTt} {ha : Nat → Bool} {mfl mfh : Nat → Int64} (h1 : ∀ l, l ≤ dp → al l = if ha l then F (2 * l) else pNo) (h2 : ∀ l, l ≤ dp → rw l = F (2 * l + 1)) (h4 : ∀ i, i < pl → fl i = mfl i ∧ fh i = mfh i) : MR (0, dp, pl, al, rw, pc, tk, fl, fh) false false ir F ha mfl mfh := by
  refine ⟨h1, fun l hl => h2 l (by omega), ?_, fun _ => rfl, fun q => (by cases q), fun q => (by cases q)⟩
  unfold aEnd tPF tPl
  simp only [if_true]
  exact ⟨h2 dp (Nat.le_refl _), h4⟩
/-- the piece is taken -/
theorem MR_end {ah dp pl : Nat} {al rw : Nat → PTt} {pc : PTt} {tk : Nat → Nat} {fl fh : Nat → Int64} {im ip ir : Bool} {F : Nat → PTt} {ha : Nat → Bool} {mfl mfh : Nat → Int64} (h : MR (ah, dp, pl, al, rw, pc, tk, fl, fh) im ip ir F ha mfl mfh) (hdp : dp ≤ 10) : ∃ ah' rw' pc' fl' fh', aEnd (ah, dp, pl, al, rw, pc, tk, fl, fh) = (ah', dp, pl, al, rw', pc', tk, fl', fh') ∧ (∀ l, l ≤ dp → al l = if ha l then tPF dp ip F (2 * l) else pNo) ∧ (∀ l, l ≤ dp → rw' l = tPF dp ip F (2 * l + 1)) ∧ ∀ i, i < pl → fl' i = tPl dp pl ip F (F 30).1 mfl i ∧ fh' i = tPl dp pl ip F (F 30).2.1 mfh i := by
  obtain ⟨h1, h2, ⟨h3, h4⟩, -⟩ := h
  have e : ∃ ah' rw' pc' fl' fh', aEnd (ah, dp, pl, al, rw, pc, tk, fl, fh) = (ah', dp, pl, al, rw', pc', tk, fl', fh') ∧ ∀ l, ¬ l = dp → rw' l = rw l := by
    unfold aEnd
    simp only
    split
    · exact ⟨_, _, _, _, _, rfl, fun _ _ => rfl⟩
    · exact ⟨_, _, _, _, _, rfl, fun l hl => va_up_n hl⟩
  obtain ⟨ah', rw', pc', fl', fh', e, er⟩ := e
  rw [e] at h3 h4
  refine ⟨ah', rw', pc', fl', fh', e, fun l hl => ?_, fun l hl => ?_, h4⟩
  · rw [h1 l hl]
    unfold tPF
    split
    · split
      · rw [va_up_n (by omega)]
      · rfl
    · rfl
  · by_cases hld : l = dp
    · subst hld; exact h3
    · rw [er l hld, h2 l (by omega)]
      unfold tPF
      split
      · rw [va_up_n (by omega)]
      · rfl
theorem sq_al {dp : Nat} {al rw : Nat → PTt} {ha : Nat → Bool} {F : Nat → PTt} (h1 : ∀ l, l ≤ dp → al l = if ha l then F (2 * l) else pNo) (h2 : ∀ l, l ≤ dp → rw l = F (2 * l + 1)) : pJn (al dp) (rw dp) = sqF dp (ha dp) F (2 * dp) := by
  unfold sqF
  rw [va_up_n (by omega), va_up_s, h1 dp (Nat.le_refl _), h2 dp (Nat.le_refl _)]
  cases ha dp with
  | true => rfl
  | false => exact pJn_no
theorem mP_2 {ph : List px_E} {m0 : Nat → Int32} {F : Nat → PTt} {ha : Nat → Bool} {pl : Nat} {ip ir : Bool} {tk : Nat → Nat} {fl fh : Nat → Int64} (h : mP m0 F ha pl ip ir tk fl fh ph) : ∃ m, ph[100]? = some (MD m) ∧ ∀ ip' ir', mP m0 F ha pl ip' ir' tk fl fh (ph.set 100 (MD (upd (upd m 2 (px_b ip')) 3 (px_b ir')))) := by
  obtain ⟨m, em, ha', tk', f1, f2, f3, f4, ⟨h100, e1, e2, e3, e4⟩, ⟨h105, h106, h107, h108, h109⟩, ⟨h110, h102, h103, h104⟩, v1, v2⟩ := h
  refine ⟨m, h100, fun ip' ir' => ?_⟩
  refine ⟨upd (upd m 2 (px_b ip')) 3 (px_b ir'), em, ha', tk', f1, f2, f3, f4, ⟨?_, (up_ne (by decide)).trans ((up_ne (by decide)).trans e1), (up_ne (by decide)).trans pk_us, pk_us, fun j a b c => (up_ne c).trans ((up_ne b).trans (e4 j a b c))⟩, ⟨?_, ?_, ?_, ?_, ?_⟩, ⟨?_, ?_, ?_, ?_⟩, v1, v2⟩
  all_goals simp only [px_put_self, px_put_ne, h100, h102, h103, h104, h105, h106, h107, h108, h109, h110, Nat.reduceEqDiff, not_false_eq_true, Option.map_some]
section MPT
variable {G : px_G} {ph : List px_E} {d : Nat} {Q : Option Value → List px_E → Prop}
set_option maxRecDepth 100000 in
set_option maxHeartbeats 4000000 in
theorem c_N_parse {len : Nat} {gt : Nat → Int32} {tx : Nat → Nat} {m0 : Nat → Int32} {al0 rw0 : Nat → PTt} {pc0 : PTt} {tk0 : Nat → Nat} {fl0 fh0 : Nat → Int64} (hlen : len ≤ 128) (h101 : ph[101]? = some (IA 128 gt)) (htx : ∀ i, i < len → gt i = nI (tx i) ∧ 32 ≤ tx i ∧ tx i ≤ 126) (hm0 : m0 0 = nI len) (h100 : ph[100]? = some (MD m0)) (hN : iMod ph)
    (hQf : ∀ i ph', fr FP ph ph' → (∃ F ha pl ip ir tk mfl mfh, mP m0 F ha pl ip ir tk mfl mfh ph') → aLp tx len 0 (st0 al0 rw0 pc0 tk0 fl0 fh0) = .inl i → Q (some (.int (nI i))) ph')
    (hQd : ∀ s ph', fr FP ph ph' → (∃ F ha pl ip ir tk mfl mfh, mP m0 F ha pl ip ir tk mfl mfh ph') → aLp tx len 0 (st0 al0 rw0 pc0 tk0 fl0 fh0) = .inr s → 0 < s.2.1 → Q (some (.int (nI len))) ph')
    (hQg : ∀ s ph', fr FP ph ph' → aLp tx len 0 (st0 al0 rw0 pc0 tk0 fl0 fh0) = .inr s → s.2.1 = 0 → (∃ F ha ip ir mfl mfh, mP m0 F ha (aFin s).2.2.1 ip ir (aFin s).2.2.2.2.2.2.1 mfl mfh ph' ∧ F 0 = (aFin s).2.2.2.1 0 ∧ ∀ i, i < (aFin s).2.2.1 → (aFin s).2.2.2.2.2.2.2.1 i = mfl i ∧ (aFin s).2.2.2.2.2.2.2.2 i = mfh i) → Q (some (.int (-2))) ph') : px_Met G mX12_parse (d + 4) 0 0 [.ref 100] ph Q := by
  obtain ⟨T, hT⟩ : ∃ T, aLp tx len 0 (st0 al0 rw0 pc0 tk0 fl0 fh0) = T := ⟨_, rfl⟩
  rw [hT] at hQf hQd hQg
  refine px_start kX12_parse (Nat.le_of_ble_eq_true rfl) ?_
  show px_W G _ _ _ _ _ 0 0 0 [some (.ref 100), none, none, none, none] [] ph
  have loop : ∀ (r i : Nat) (s : PS) (im ip ir : Bool) (F : Nat → PTt) (ha : Nat → Bool) (mfl mfh : Nat → Int64) (x4 : Option Value) (ph' : List px_E), i + r = len → aLp tx r i s = T → wS i s → fr FP ph ph' → MR s im ip ir F ha mfl mfh → mP m0 F ha s.2.2.1 ip ir s.2.2.2.2.2.2.1 mfl mfh ph' → px_W G mX12_parse (d + 4) 0 0 Q 0 0 26 [some (.ref 100), some (.int (nI s.2.1)), some (.int (px_b im)), some (.int (nI i)), x4] [] ph' := by
    intro r
    induction r with
    | zero =>
      intro i s im ip ir F ha mfl mfh x4 ph' hi hL hw hf' hMR hc'
      have hil : i = len := by omega
      subst hil
      have hL : Sum.inr s = T := hL
      rw [← hL] at hQd hQg
      obtain ⟨m, k100, e1, e2, e3, e4, -, -⟩ := mP_m hc'
      have e0 : m 0 = nI i := (e4 0 (by decide) (by decide) (by decide)).trans hm0
      obtain ⟨ah, dp, pl, al, rw, pc, tk, fl, fh⟩ := s
      obtain ⟨w1, w2, w3, w4, w5⟩ := hw
      show px_W G mX12_parse (d + 4) 0 0 Q 0 0 26 [some (.ref 100), some (.int (nI dp)), some (.int (px_b im)), some (.int (nI i)), x4] [] ph'
      have hc0 : mP m0 F ha pl ip ir tk mfl mfh ph' := hc'
      by_cases hd0 : dp = 0
      · obtain ⟨ah', rw', pc', fl', fh', e, g1, g2, g3⟩ := MR_end hMR w2
        subst hd0
        (repeat (first | (refine px_st rfl rfl ?_; simp only [px_wp, px_at, px_set, px_set2, px_clr, px_ldi, px_ldl, px_lda, px_i1, px_i2, px_l1, px_l2, px_il, px_a1, px_r1, px_r2, px_ir, px_vir, px_g, px_v1, px_v2, px_gf, px_pf, px_ps, px_ar, px_nth, px_upd, px_zero, px_dfl, px_put_self, px_put_ne, px_sw, nI_add, pk_mul, true_and, and_true, Nat.reduceAdd, Nat.reduceLT, Nat.reduceEqDiff, List.length_cons, List.length_nil, true_or, or_true, List.set_set, ne_eq, not_false_eq_true, Fin.isValue, Fin.val_zero, Fin.val_one, Fin.val_two, reduceCtorEq, Option.map_some, List.length_set, Nat.zero_lt_succ, Option.toList_some, Option.toList_none, List.cons_append, List.nil_append, px_b_2, IA, LA, BA, ZA, QA, PT, DR, TL, MC, CD, CC, false_and, or_false, false_or, nar_b, nar_0, nar_1, nar_y, k100, g_texted, e0]) | (refine ⟨_, rfl, by omega, ?_⟩) | (refine ⟨fun h => absurd h (nI_nlt (by omega) (by omega)), fun _ => ?_⟩) | (refine ⟨fun _ => ?_, fun h => absurd h (nI_nlt (by omega) (by omega))⟩) | (refine ⟨fun h => absurd (nI_lt (by omega) (by omega)) h, fun _ => ?_⟩) | (refine ⟨fun _ => ?_, fun h => absurd (nI_lt (by omega) (by omega)) h⟩) | (refine ⟨fun h => absurd ((nI_eq (by omega) (by omega)).mp h) (by omega), fun _ => ?_⟩) | (refine ⟨fun _ => ?_, fun h => absurd ((nI_eq (by omega) (by omega)).mp h) (by omega)⟩) | (refine ⟨fun h => absurd h (by decide), fun _ => ?_⟩) | (refine ⟨fun _ => ?_, fun h => absurd h (by decide)⟩) | (refine ⟨fun h => absurd rfl h, fun _ => ?_⟩) | (refine ⟨fun _ => ?_, fun h => absurd rfl h⟩)))
        refine px_cV rfl rfl kX12_takeSequence rfl (c_N_takeSequence (d := d) (l := 0) (by omega) (show pl ≤ 128 by omega) hc0 (fun ph2 hf2 hc2 => ?_)) (Nat.le_refl _) k100 rfl rfl rfl (Nat.le_of_ble_eq_true rfl) (Nat.zero_le _) (Nat.zero_le _)
        have hq := hQg _ ph2 (fr_tr hf' hf2) rfl rfl
        unfold aFin at hq
        rw [e] at hq
        simp only at hq
        have hq2 := hq ⟨_, _, _, _, _, _, hc2, by
          rw [va_up_s, sq_al g1 g2], g3⟩
        (repeat (first | (refine px_st rfl rfl ?_; simp only [px_wp, px_at, px_set, px_set2, px_clr, px_ldi, px_ldl, px_lda, px_i1, px_i2, px_l1, px_l2, px_il, px_a1, px_r1, px_r2, px_ir, px_vir, px_g, px_v1, px_v2, px_gf, px_pf, px_ps, px_ar, px_nth, px_upd, px_zero, px_dfl, px_put_self, px_put_ne, px_sw, nI_add, pk_mul, true_and, and_true, Nat.reduceAdd, Nat.reduceLT, Nat.reduceEqDiff, List.length_cons, List.length_nil, true_or, or_true, List.set_set, ne_eq, not_false_eq_true, Fin.isValue, Fin.val_zero, Fin.val_one, Fin.val_two, reduceCtorEq, Option.map_some, List.length_set, Nat.zero_lt_succ, Option.toList_some, Option.toList_none, List.cons_append, List.nil_append, px_b_2, IA, LA, BA, ZA, QA, PT, DR, TL, MC, CD, CC, false_and, or_false, false_or, nar_b, nar_0, nar_1, nar_y]) | (refine ⟨_, rfl, by omega, ?_⟩) | (refine ⟨fun h => absurd h (nI_nlt (by omega) (by omega)), fun _ => ?_⟩) | (refine ⟨fun _ => ?_, fun h => absurd h (nI_nlt (by omega) (by omega))⟩) | (refine ⟨fun h => absurd (nI_lt (by omega) (by omega)) h, fun _ => ?_⟩) | (refine ⟨fun _ => ?_, fun h => absurd (nI_lt (by omega) (by omega)) h⟩) | (refine ⟨fun h => absurd ((nI_eq (by omega) (by omega)).mp h) (by omega), fun _ => ?_⟩) | (refine ⟨fun _ => ?_, fun h => absurd ((nI_eq (by omega) (by omega)).mp h) (by omega)⟩) | (refine ⟨fun h => absurd h (by decide), fun _ => ?_⟩) | (refine ⟨fun _ => ?_, fun h => absurd h (by decide)⟩) | (refine ⟨fun h => absurd rfl h, fun _ => ?_⟩) | (refine ⟨fun _ => ?_, fun h => absurd rfl h⟩)))
        exact px_ireturn rfl (Or.inl rfl) (Nat.le_refl _) (Nat.le_refl _) hq2
      · have hq := hQd _ ph' hf' ⟨_, _, _, _, _, _, _, _, hc'⟩ rfl (show 0 < dp by omega)
        (repeat (first | (refine px_st rfl rfl ?_; simp only [px_wp, px_at, px_set, px_set2, px_clr, px_ldi, px_ldl, px_lda, px_i1, px_i2, px_l1, px_l2, px_il, px_a1, px_r1, px_r2, px_ir, px_vir, px_g, px_v1, px_v2, px_gf, px_pf, px_ps, px_ar, px_nth, px_upd, px_zero, px_dfl, px_put_self, px_put_ne, px_sw, nI_add, pk_mul, true_and, and_true, Nat.reduceAdd, Nat.reduceLT, Nat.reduceEqDiff, List.length_cons, List.length_nil, true_or, or_true, List.set_set, ne_eq, not_false_eq_true, Fin.isValue, Fin.val_zero, Fin.val_one, Fin.val_two, reduceCtorEq, Option.map_some, List.length_set, Nat.zero_lt_succ, Option.toList_some, Option.toList_none, List.cons_append, List.nil_append, px_b_2, IA, LA, BA, ZA, QA, PT, DR, TL, MC, CD, CC, false_and, or_false, false_or, nar_b, nar_0, nar_1, nar_y, k100, g_texted, e0]) | (refine ⟨_, rfl, by omega, ?_⟩) | (refine ⟨fun h => absurd h (nI_nlt (by omega) (by omega)), fun _ => ?_⟩) | (refine ⟨fun _ => ?_, fun h => absurd h (nI_nlt (by omega) (by omega))⟩) | (refine ⟨fun h => absurd (nI_lt (by omega) (by omega)) h, fun _ => ?_⟩) | (refine ⟨fun _ => ?_, fun h => absurd (nI_lt (by omega) (by omega)) h⟩) | (refine ⟨fun h => absurd ((nI_eq (by omega) (by omega)).mp h) (by omega), fun _ => ?_⟩) | (refine ⟨fun _ => ?_, fun h => absurd ((nI_eq (by omega) (by omega)).mp h) (by omega)⟩) | (refine ⟨fun h => absurd h (by decide), fun _ => ?_⟩) | (refine ⟨fun _ => ?_, fun h => absurd h (by decide)⟩) | (refine ⟨fun h => absurd rfl h, fun _ => ?_⟩) | (refine ⟨fun _ => ?_, fun h => absurd rfl h⟩)))
        exact px_ireturn rfl (Or.inl rfl) (Nat.le_refl _) (Nat.le_refl _) hq
    | succ r ih =>
      intro i s im ip ir F ha mfl mfh x4 ph' hi hL hw hf' hMR hc'
      obtain ⟨m, k100, e1, e2, e3, e4, hsip, hsir⟩ := mP_m hc'
      have e0 : m 0 = nI len := (e4 0 (by decide) (by decide) (by decide)).trans hm0
      have k101 := hf' _ _ (show FP 101 _ from rfl) h101
      obtain ⟨t1, t2, t3⟩ := htx i (by omega)
      obtain ⟨ah, dp, pl, al, rw, pc, tk, fl, fh⟩ := s
      have hw0 := hw
      obtain ⟨w1, w2, w3, w4, w5⟩ := hw
      show px_W G mX12_parse (d + 4) 0 0 Q 0 0 26 [some (.ref 100), some (.int (nI dp)), some (.int (px_b im)), some (.int (nI i)), x4] [] ph'
      have hc0 : mP m0 F ha pl ip ir tk mfl mfh ph' := hc'
      have e1 : m 1 = nI pl := e1
      unfold aLp at hL
      generalize hto : tx i = o at hL t1 t2 t3
      -- the next byte
      have nxt : ∀ (s' : PS) (im ip ir : Bool) (F : Nat → PTt) (ha : Nat → Bool) (mfl mfh : Nat → Int64) (ph2 : List px_E), aLp tx r (i + 1) s' = T → wS (i + 1) s' → fr FP ph ph2 → MR s' im ip ir F ha mfl mfh → mP m0 F ha s'.2.2.1 ip ir s'.2.2.2.2.2.2.1 mfl mfh ph2 → px_W G mX12_parse (d + 4) 0 0 Q 0 0 336 [some (.ref 100), some (.int (nI s'.2.1)), some (.int (px_b im)), some (.int (nI i)), some (.int (nI o))] [] ph2 := by
        intro s' im ip ir F ha mfl mfh ph2 hL2 hw2 hf2 hM2 hc2
        have hih := ih (i + 1) s' im ip ir F ha mfl mfh (some (.int (nI o))) ph2 (by omega) hL2 hw2 hf2 hM2 hc2
        (repeat (first | (exact hih) | (refine px_st rfl rfl ?_; simp only [px_wp, px_at, px_set, px_set2, px_clr, px_ldi, px_ldl, px_lda, px_i1, px_i2, px_l1, px_l2, px_il, px_a1, px_r1, px_r2, px_ir, px_vir, px_g, px_v1, px_v2, px_gf, px_pf, px_ps, px_ar, px_nth, px_upd, px_zero, px_dfl, px_put_self, px_put_ne, px_sw, nI_add, pk_mul, true_and, and_true, Nat.reduceAdd, Nat.reduceLT, Nat.reduceEqDiff, List.length_cons, List.length_nil, true_or, or_true, List.set_set, ne_eq, not_false_eq_true, Fin.isValue, Fin.val_zero, Fin.val_one, Fin.val_two, reduceCtorEq, Option.map_some, List.length_set, Nat.zero_lt_succ, Option.toList_some, Option.toList_none, List.cons_append, List.nil_append, px_b_2, IA, LA, BA, ZA, QA, PT, DR, TL, MC, CD, CC, false_and, or_false, false_or, nar_b, nar_0, nar_1, nar_y]) | (refine ⟨_, rfl, by omega, ?_⟩) | (refine ⟨fun h => absurd h (nI_nlt (by omega) (by omega)), fun _ => ?_⟩) | (refine ⟨fun _ => ?_, fun h => absurd h (nI_nlt (by omega) (by omega))⟩) | (refine ⟨fun h => absurd (nI_lt (by omega) (by omega)) h, fun _ => ?_⟩) | (refine ⟨fun _ => ?_, fun h => absurd (nI_lt (by omega) (by omega)) h⟩) | (refine ⟨fun h => absurd ((nI_eq (by omega) (by omega)).mp h) (by omega), fun _ => ?_⟩) | (refine ⟨fun _ => ?_, fun h => absurd ((nI_eq (by omega) (by omega)).mp h) (by omega)⟩) | (refine ⟨fun h => absurd h (by decide), fun _ => ?_⟩) | (refine ⟨fun _ => ?_, fun h => absurd h (by decide)⟩) | (refine ⟨fun h => absurd rfl h, fun _ => ?_⟩) | (refine ⟨fun _ => ?_, fun h => absurd rfl h⟩)))
      by_cases h32 : o = 32
      · rw [if_pos h32] at hL
        have hn := nxt (ah, dp, pl, al, rw, pc, tk, fl, fh) im ip ir F ha mfl mfh ph' hL (wS_mono hw0 (by omega)) hf' hMR hc'
        subst h32
        (repeat (first | (exact hn) | (refine px_st rfl rfl ?_; simp only [px_wp, px_at, px_set, px_set2, px_clr, px_ldi, px_ldl, px_lda, px_i1, px_i2, px_l1, px_l2, px_il, px_a1, px_r1, px_r2, px_ir, px_vir, px_g, px_v1, px_v2, px_gf, px_pf, px_ps, px_ar, px_nth, px_upd, px_zero, px_dfl, px_put_self, px_put_ne, px_sw, nI_add, pk_mul, true_and, and_true, Nat.reduceAdd, Nat.reduceLT, Nat.reduceEqDiff, List.length_cons, List.length_nil, true_or, or_true, List.set_set, ne_eq, not_false_eq_true, Fin.isValue, Fin.val_zero, Fin.val_one, Fin.val_two, reduceCtorEq, Option.map_some, List.length_set, Nat.zero_lt_succ, Option.toList_some, Option.toList_none, List.cons_append, List.nil_append, px_b_2, IA, LA, BA, ZA, QA, PT, DR, TL, MC, CD, CC, false_and, or_false, false_or, nar_b, nar_0, nar_1, nar_y, k100, g_texted, e0, g_text, k101, t1]) | (refine ⟨_, rfl, by omega, ?_⟩) | (refine ⟨fun h => absurd h (nI_nlt (by omega) (by omega)), fun _ => ?_⟩) | (refine ⟨fun _ => ?_, fun h => absurd h (nI_nlt (by omega) (by omega))⟩) | (refine ⟨fun h => absurd (nI_lt (by omega) (by omega)) h, fun _ => ?_⟩) | (refine ⟨fun _ => ?_, fun h => absurd (nI_lt (by omega) (by omega)) h⟩) | (refine ⟨fun h => absurd ((nI_eq (by omega) (by omega)).mp h) (by omega), fun _ => ?_⟩) | (refine ⟨fun _ => ?_, fun h => absurd ((nI_eq (by omega) (by omega)).mp h) (by omega)⟩) | (refine ⟨fun h => absurd h (by decide), fun _ => ?_⟩) | (refine ⟨fun _ => ?_, fun h => absurd h (by decide)⟩) | (refine ⟨fun h => absurd rfl h, fun _ => ?_⟩) | (refine ⟨fun _ => ?_, fun h => absurd rfl h⟩)))
      rw [if_neg h32] at hL
      -- a fault
      have flt : aT o (ah, dp, pl, al, rw, pc, tk, fl, fh) = none → ∀ ph2, fr FP ph ph2 → (∃ F ha pl ip ir tk mfl mfh, mP m0 F ha pl ip ir tk mfl mfh ph2) → Q (some (.int (nI i))) ph2 := fun hn ph2 hf2 hc2 => by
        rw [hn] at hL
        exact hQf i ph2 hf2 hc2 hL.symm
      have go : ∀ s', aT o (ah, dp, pl, al, rw, pc, tk, fl, fh) = some s' → aLp tx r (i + 1) s' = T ∧ wS (i + 1) s' := fun s' hs => by
        refine ⟨?_, wS_T hw0 hs⟩
        rw [hs] at hL
        exact hL
      obtain ⟨ah', rw', pc', fl', fh', ee, g1, g2, g3⟩ := MR_end hMR w2
      have hT2 : ¬ o = 39 → ¬ (o = 42 ∨ o = 43 ∨ o = 63) → aT o (ah, dp, pl, al, rw, pc, tk, fl, fh) = aT2 o (ah', dp, pl, al, rw', pc', tk, fl', fh') := fun a b => by
        unfold aT
        simp only
        rw [if_neg a, if_neg b, ee]
      have hmem : m_in (nI o) (nI 97) (nI 108) = decide (97 ≤ o ∧ o ≤ 108) := by
        rw [Bool.eq_iff_iff, decide_eq_true_eq, m_in_n (by omega) (by omega)]
        constructor
        · rintro ⟨j, j1, j2, j3⟩
          have : o = j := (nI_eq (by omega) (by omega)).mp j3
          omega
        · exact fun ⟨a, b⟩ => ⟨o, a, b, rfl⟩
      (repeat (first | (refine px_st rfl rfl ?_; simp only [px_wp, px_at, px_set, px_set2, px_clr, px_ldi, px_ldl, px_lda, px_i1, px_i2, px_l1, px_l2, px_il, px_a1, px_r1, px_r2, px_ir, px_vir, px_g, px_v1, px_v2, px_gf, px_pf, px_ps, px_ar, px_nth, px_upd, px_zero, px_dfl, px_put_self, px_put_ne, px_sw, nI_add, pk_mul, true_and, and_true, Nat.reduceAdd, Nat.reduceLT, Nat.reduceEqDiff, List.length_cons, List.length_nil, true_or, or_true, List.set_set, ne_eq, not_false_eq_true, Fin.isValue, Fin.val_zero, Fin.val_one, Fin.val_two, reduceCtorEq, Option.map_some, List.length_set, Nat.zero_lt_succ, Option.toList_some, Option.toList_none, List.cons_append, List.nil_append, px_b_2, IA, LA, BA, ZA, QA, PT, DR, TL, MC, CD, CC, false_and, or_false, false_or, nar_b, nar_0, nar_1, nar_y, k100, g_texted, e0, g_text, k101, t1]) | (refine ⟨_, rfl, by omega, ?_⟩) | (refine ⟨fun h => absurd h (nI_nlt (by omega) (by omega)), fun _ => ?_⟩) | (refine ⟨fun _ => ?_, fun h => absurd h (nI_nlt (by omega) (by omega))⟩) | (refine ⟨fun h => absurd (nI_lt (by omega) (by omega)) h, fun _ => ?_⟩) | (refine ⟨fun _ => ?_, fun h => absurd (nI_lt (by omega) (by omega)) h⟩) | (refine ⟨fun h => absurd ((nI_eq (by omega) (by omega)).mp h) (by omega), fun _ => ?_⟩) | (refine ⟨fun _ => ?_, fun h => absurd ((nI_eq (by omega) (by omega)).mp h) (by omega)⟩) | (refine ⟨fun h => absurd h (by decide), fun _ => ?_⟩) | (refine ⟨fun _ => ?_, fun h => absurd h (by decide)⟩) | (refine ⟨fun h => absurd rfl h, fun _ => ?_⟩) | (refine ⟨fun _ => ?_, fun h => absurd rfl h⟩)))
      refine px_cS rfl rfl kX12_in rfl (c_N_in (nI o) (nI 97) (nI 108) ?_) (Nat.le_refl _) rfl rfl (Nat.le_of_ble_eq_true rfl) (Nat.zero_le _) (Nat.zero_le _)
      rw [hmem]
      -- an atom
      have atom : ∀ ev, (ev < 12 ∧ o = 97 + ev ∨ ev = 24 ∧ o = 46) → px_W G mX12_parse (d + 4) 0 0 Q 0 0 71 [some (.ref 100), some (.int (nI dp)), some (.int (px_b im)), some (.int (nI i)), some (.int (nI o))] [] ph' := by
        intro ev hev
        have hs : aT o (ah, dp, pl, al, rw, pc, tk, fl, fh) = some (aPl (ah', dp, pl, al, rw', pc', tk, fl', fh') ev) := by
          rw [hT2 (by omega) (by omega)]
          unfold aT2
          simp only
          rw [if_neg (by omega), if_neg (by omega), if_neg (by omega)]
          rcases hev with ⟨a, b⟩ | ⟨a, b⟩
          · rw [if_neg (by omega), if_pos (by omega), b, Nat.add_sub_cancel_left]
          · rw [if_pos b, a]
        obtain ⟨hL2, hw2⟩ := go _ hs
        (repeat (first | (refine px_st rfl rfl ?_; simp only [px_wp, px_at, px_set, px_set2, px_clr, px_ldi, px_ldl, px_lda, px_i1, px_i2, px_l1, px_l2, px_il, px_a1, px_r1, px_r2, px_ir, px_vir, px_g, px_v1, px_v2, px_gf, px_pf, px_ps, px_ar, px_nth, px_upd, px_zero, px_dfl, px_put_self, px_put_ne, px_sw, nI_add, pk_mul, true_and, and_true, Nat.reduceAdd, Nat.reduceLT, Nat.reduceEqDiff, List.length_cons, List.length_nil, true_or, or_true, List.set_set, ne_eq, not_false_eq_true, Fin.isValue, Fin.val_zero, Fin.val_one, Fin.val_two, reduceCtorEq, Option.map_some, List.length_set, Nat.zero_lt_succ, Option.toList_some, Option.toList_none, List.cons_append, List.nil_append, px_b_2, IA, LA, BA, ZA, QA, PT, DR, TL, MC, CD, CC, false_and, or_false, false_or, nar_b, nar_0, nar_1, nar_y]) | (refine ⟨_, rfl, by omega, ?_⟩) | (refine ⟨fun h => absurd h (nI_nlt (by omega) (by omega)), fun _ => ?_⟩) | (refine ⟨fun _ => ?_, fun h => absurd h (nI_nlt (by omega) (by omega))⟩) | (refine ⟨fun h => absurd (nI_lt (by omega) (by omega)) h, fun _ => ?_⟩) | (refine ⟨fun _ => ?_, fun h => absurd (nI_lt (by omega) (by omega)) h⟩) | (refine ⟨fun h => absurd ((nI_eq (by omega) (by omega)).mp h) (by omega), fun _ => ?_⟩) | (refine ⟨fun _ => ?_, fun h => absurd ((nI_eq (by omega) (by omega)).mp h) (by omega)⟩) | (refine ⟨fun h => absurd h (by decide), fun _ => ?_⟩) | (refine ⟨fun _ => ?_, fun h => absurd h (by decide)⟩) | (refine ⟨fun h => absurd rfl h, fun _ => ?_⟩) | (refine ⟨fun _ => ?_, fun h => absurd rfl h⟩)))
        refine px_cV rfl rfl kX12_takePiece rfl (c_N_takePiece (d := d + 1) (show dp < 11 by omega) (show pl ≤ 128 by omega) hc0 (fun ph2 hf2 hc2 => ?_)) (Nat.le_refl _) k100 rfl rfl rfl (Nat.le_of_ble_eq_true rfl) (Nat.zero_le _) (Nat.zero_le _)
        obtain ⟨m2, j100, -⟩ := mP_m hc2
        generalize tPF dp ip F = F1 at hc2 g1 g2
        generalize tPl dp pl ip F (F 30).1 mfl = fl1 at hc2 g3
        generalize tPl dp pl ip F (F 30).2.1 mfh = fh1 at hc2 g3
        have rest : ∀ ph3, fr FP ph ph3 → mP m0 (va_up F1 30 (pPl pl)) ha (pl + 1) false ir (va_up tk pl ev) (vp_updL fl1 pl (lN 0)) (vp_updL fh1 pl (lN 0)) ph3 → px_W G mX12_parse (d + 4) 0 0 Q 0 0 96 [some (.ref 100), some (.int (nI dp)), some (.int (px_b im)), some (.int (nI i)), some (.int (nI o))] [] ph3 := by
          intro ph3 hf3 hc3
          obtain ⟨m3, i100, h23⟩ := mP_2 hc3
          have hc5 := h23 true false
          have hMR5 : MR (aPl (ah', dp, pl, al, rw', pc', tk, fl', fh') ev) (!decide (o = 46)) true false (va_up F1 30 (pPl pl)) ha (vp_updL fl1 pl (lN 0)) (vp_updL fh1 pl (lN 0)) := by
            have hah : (if ev = 24 then 2 else 1 : Nat) = (if (!decide (o = 46)) then 1 else 2) := by
              rcases hev with ⟨a, b⟩ | ⟨a, b⟩
              · rw [if_neg (by omega), decide_eq_false (by omega)]; rfl
              · rw [if_pos a, decide_eq_true b]; rfl
            unfold aPl
            simp only
            rw [hah]
            refine MR_pc (fun l hl => ?_) (fun l hl => ?_) (by rw [va_up_s]) (fun j hj => ?_)
            · rw [va_up_n (by omega)]; exact g1 l hl
            · rw [va_up_n (by omega)]; exact g2 l hl
            · by_cases hjp : j = pl
              · subst hjp; rw [upL_s, upL_s, upL_s, upL_s]; exact ⟨rfl, rfl⟩
              · rw [upL_n hjp, upL_n hjp, upL_n hjp, upL_n hjp]; exact g3 j (by omega)
          have hn := nxt _ (!decide (o = 46)) true false _ ha _ _ _ hL2 hw2 (fp_set hf3 rfl) hMR5 hc5
          have hn : px_W G mX12_parse (d + 4) 0 0 Q 0 0 336 [some (.ref 100), some (.int (nI dp)), some (.int (px_b (!decide (o = 46)))), some (.int (nI i)), some (.int (nI o))] [] (ph3.set 100 (MD (upd (upd m3 2 (nI 1)) 3 (nI 0)))) := hn
          by_cases h46 : o = 46
          · rw [decide_eq_true h46] at hn
            subst h46
            (repeat (first | (exact hn) | (refine px_st rfl rfl ?_; simp only [px_wp, px_at, px_set, px_set2, px_clr, px_ldi, px_ldl, px_lda, px_i1, px_i2, px_l1, px_l2, px_il, px_a1, px_r1, px_r2, px_ir, px_vir, px_g, px_v1, px_v2, px_gf, px_pf, px_ps, px_ar, px_nth, px_upd, px_zero, px_dfl, px_put_self, px_put_ne, px_sw, nI_add, pk_mul, true_and, and_true, Nat.reduceAdd, Nat.reduceLT, Nat.reduceEqDiff, List.length_cons, List.length_nil, true_or, or_true, List.set_set, ne_eq, not_false_eq_true, Fin.isValue, Fin.val_zero, Fin.val_one, Fin.val_two, reduceCtorEq, Option.map_some, List.length_set, Nat.zero_lt_succ, Option.toList_some, Option.toList_none, List.cons_append, List.nil_append, px_b_2, IA, LA, BA, ZA, QA, PT, DR, TL, MC, CD, CC, false_and, or_false, false_or, nar_b, nar_0, nar_1, nar_y, i100, p_isPiece, p_isRepeated, md_len]) | (refine ⟨_, rfl, by omega, ?_⟩) | (refine ⟨fun h => absurd h (nI_nlt (by omega) (by omega)), fun _ => ?_⟩) | (refine ⟨fun _ => ?_, fun h => absurd h (nI_nlt (by omega) (by omega))⟩) | (refine ⟨fun h => absurd (nI_lt (by omega) (by omega)) h, fun _ => ?_⟩) | (refine ⟨fun _ => ?_, fun h => absurd (nI_lt (by omega) (by omega)) h⟩) | (refine ⟨fun h => absurd ((nI_eq (by omega) (by omega)).mp h) (by omega), fun _ => ?_⟩) | (refine ⟨fun _ => ?_, fun h => absurd ((nI_eq (by omega) (by omega)).mp h) (by omega)⟩) | (refine ⟨fun h => absurd h (by decide), fun _ => ?_⟩) | (refine ⟨fun _ => ?_, fun h => absurd h (by decide)⟩) | (refine ⟨fun h => absurd rfl h, fun _ => ?_⟩) | (refine ⟨fun _ => ?_, fun h => absurd rfl h⟩)))
          · rw [decide_eq_false h46] at hn
            (repeat (first | (exact hn) | (refine px_st rfl rfl ?_; simp only [px_wp, px_at, px_set, px_set2, px_clr, px_ldi, px_ldl, px_lda, px_i1, px_i2, px_l1, px_l2, px_il, px_a1, px_r1, px_r2, px_ir, px_vir, px_g, px_v1, px_v2, px_gf, px_pf, px_ps, px_ar, px_nth, px_upd, px_zero, px_dfl, px_put_self, px_put_ne, px_sw, nI_add, pk_mul, true_and, and_true, Nat.reduceAdd, Nat.reduceLT, Nat.reduceEqDiff, List.length_cons, List.length_nil, true_or, or_true, List.set_set, ne_eq, not_false_eq_true, Fin.isValue, Fin.val_zero, Fin.val_one, Fin.val_two, reduceCtorEq, Option.map_some, List.length_set, Nat.zero_lt_succ, Option.toList_some, Option.toList_none, List.cons_append, List.nil_append, px_b_2, IA, LA, BA, ZA, QA, PT, DR, TL, MC, CD, CC, false_and, or_false, false_or, nar_b, nar_0, nar_1, nar_y, i100, p_isPiece, p_isRepeated, md_len]) | (refine ⟨_, rfl, by omega, ?_⟩) | (refine ⟨fun h => absurd h (nI_nlt (by omega) (by omega)), fun _ => ?_⟩) | (refine ⟨fun _ => ?_, fun h => absurd h (nI_nlt (by omega) (by omega))⟩) | (refine ⟨fun h => absurd (nI_lt (by omega) (by omega)) h, fun _ => ?_⟩) | (refine ⟨fun _ => ?_, fun h => absurd (nI_lt (by omega) (by omega)) h⟩) | (refine ⟨fun h => absurd ((nI_eq (by omega) (by omega)).mp h) (by omega), fun _ => ?_⟩) | (refine ⟨fun _ => ?_, fun h => absurd ((nI_eq (by omega) (by omega)).mp h) (by omega)⟩) | (refine ⟨fun h => absurd h (by decide), fun _ => ?_⟩) | (refine ⟨fun _ => ?_, fun h => absurd h (by decide)⟩) | (refine ⟨fun h => absurd rfl h, fun _ => ?_⟩) | (refine ⟨fun _ => ?_, fun h => absurd rfl h⟩)))
        rcases hev with ⟨ha1, hb1⟩ | ⟨ha1, hb1⟩
        · have hsub : nI o - nI 97 = tM ev := by
            rw [hb1, pk_sub (by omega), Nat.add_sub_cancel_left]
            unfold tM
            rw [if_neg (by omega)]
          (repeat (first | (refine px_st rfl rfl ?_; simp only [px_wp, px_at, px_set, px_set2, px_clr, px_ldi, px_ldl, px_lda, px_i1, px_i2, px_l1, px_l2, px_il, px_a1, px_r1, px_r2, px_ir, px_vir, px_g, px_v1, px_v2, px_gf, px_pf, px_ps, px_ar, px_nth, px_upd, px_zero, px_dfl, px_put_self, px_put_ne, px_sw, nI_add, pk_mul, true_and, and_true, Nat.reduceAdd, Nat.reduceLT, Nat.reduceEqDiff, List.length_cons, List.length_nil, true_or, or_true, List.set_set, ne_eq, not_false_eq_true, Fin.isValue, Fin.val_zero, Fin.val_one, Fin.val_two, reduceCtorEq, Option.map_some, List.length_set, Nat.zero_lt_succ, Option.toList_some, Option.toList_none, List.cons_append, List.nil_append, px_b_2, IA, LA, BA, ZA, QA, PT, DR, TL, MC, CD, CC, false_and, or_false, false_or, nar_b, nar_0, nar_1, nar_y, hsub]) | (refine ⟨_, rfl, by omega, ?_⟩) | (refine ⟨fun h => absurd h (nI_nlt (by omega) (by omega)), fun _ => ?_⟩) | (refine ⟨fun _ => ?_, fun h => absurd h (nI_nlt (by omega) (by omega))⟩) | (refine ⟨fun h => absurd (nI_lt (by omega) (by omega)) h, fun _ => ?_⟩) | (refine ⟨fun _ => ?_, fun h => absurd (nI_lt (by omega) (by omega)) h⟩) | (refine ⟨fun h => absurd ((nI_eq (by omega) (by omega)).mp h) (by omega), fun _ => ?_⟩) | (refine ⟨fun _ => ?_, fun h => absurd ((nI_eq (by omega) (by omega)).mp h) (by omega)⟩) | (refine ⟨fun h => absurd h (by decide), fun _ => ?_⟩) | (refine ⟨fun _ => ?_, fun h => absurd h (by decide)⟩) | (refine ⟨fun h => absurd rfl h, fun _ => ?_⟩) | (refine ⟨fun _ => ?_, fun h => absurd rfl h⟩)))
          refine px_cV rfl rfl kX12_atom rfl (c_N_atom (d := d + 2) (show pl < 128 by omega) hc2 (fun ph3 hf3 hc3 => ?_)) (Nat.le_refl _) j100 rfl rfl rfl (Nat.le_of_ble_eq_true rfl) (Nat.zero_le _) (Nat.zero_le _)
          exact rest ph3 (fr_tr (fr_tr hf' hf2) hf3) hc3
        · have hev24 : (-1 : Int32) = tM ev := by rw [ha1]; rfl
          subst hb1
          (repeat (first | (refine px_st rfl rfl ?_; simp only [px_wp, px_at, px_set, px_set2, px_clr, px_ldi, px_ldl, px_lda, px_i1, px_i2, px_l1, px_l2, px_il, px_a1, px_r1, px_r2, px_ir, px_vir, px_g, px_v1, px_v2, px_gf, px_pf, px_ps, px_ar, px_nth, px_upd, px_zero, px_dfl, px_put_self, px_put_ne, px_sw, nI_add, pk_mul, true_and, and_true, Nat.reduceAdd, Nat.reduceLT, Nat.reduceEqDiff, List.length_cons, List.length_nil, true_or, or_true, List.set_set, ne_eq, not_false_eq_true, Fin.isValue, Fin.val_zero, Fin.val_one, Fin.val_two, reduceCtorEq, Option.map_some, List.length_set, Nat.zero_lt_succ, Option.toList_some, Option.toList_none, List.cons_append, List.nil_append, px_b_2, IA, LA, BA, ZA, QA, PT, DR, TL, MC, CD, CC, false_and, or_false, false_or, nar_b, nar_0, nar_1, nar_y, hev24]) | (refine ⟨_, rfl, by omega, ?_⟩) | (refine ⟨fun h => absurd h (nI_nlt (by omega) (by omega)), fun _ => ?_⟩) | (refine ⟨fun _ => ?_, fun h => absurd h (nI_nlt (by omega) (by omega))⟩) | (refine ⟨fun h => absurd (nI_lt (by omega) (by omega)) h, fun _ => ?_⟩) | (refine ⟨fun _ => ?_, fun h => absurd (nI_lt (by omega) (by omega)) h⟩) | (refine ⟨fun h => absurd ((nI_eq (by omega) (by omega)).mp h) (by omega), fun _ => ?_⟩) | (refine ⟨fun _ => ?_, fun h => absurd ((nI_eq (by omega) (by omega)).mp h) (by omega)⟩) | (refine ⟨fun h => absurd h (by decide), fun _ => ?_⟩) | (refine ⟨fun _ => ?_, fun h => absurd h (by decide)⟩) | (refine ⟨fun h => absurd rfl h, fun _ => ?_⟩) | (refine ⟨fun _ => ?_, fun h => absurd rfl h⟩)))
          refine px_cV rfl rfl kX12_atom rfl (c_N_atom (d := d + 2) (ev := ev) (show pl < 128 by omega) hc2 (fun ph3 hf3 hc3 => ?_)) (Nat.le_refl _) j100 rfl rfl rfl (Nat.le_of_ble_eq_true rfl) (Nat.zero_le _) (Nat.zero_le _)
          exact rest ph3 (fr_tr (fr_tr hf' hf2) hf3) hc3
      by_cases hme : 97 ≤ o ∧ o ≤ 108
      · rw [decide_eq_true hme]
        have ha0 := atom (o - 97) (Or.inl ⟨by omega, by omega⟩)
        (repeat (first | (exact ha0) | (refine px_st rfl rfl ?_; simp only [px_wp, px_at, px_set, px_set2, px_clr, px_ldi, px_ldl, px_lda, px_i1, px_i2, px_l1, px_l2, px_il, px_a1, px_r1, px_r2, px_ir, px_vir, px_g, px_v1, px_v2, px_gf, px_pf, px_ps, px_ar, px_nth, px_upd, px_zero, px_dfl, px_put_self, px_put_ne, px_sw, nI_add, pk_mul, true_and, and_true, Nat.reduceAdd, Nat.reduceLT, Nat.reduceEqDiff, List.length_cons, List.length_nil, true_or, or_true, List.set_set, ne_eq, not_false_eq_true, Fin.isValue, Fin.val_zero, Fin.val_one, Fin.val_two, reduceCtorEq, Option.map_some, List.length_set, Nat.zero_lt_succ, Option.toList_some, Option.toList_none, List.cons_append, List.nil_append, px_b_2, IA, LA, BA, ZA, QA, PT, DR, TL, MC, CD, CC, false_and, or_false, false_or, nar_b, nar_0, nar_1, nar_y]) | (refine ⟨_, rfl, by omega, ?_⟩) | (refine ⟨fun h => absurd h (nI_nlt (by omega) (by omega)), fun _ => ?_⟩) | (refine ⟨fun _ => ?_, fun h => absurd h (nI_nlt (by omega) (by omega))⟩) | (refine ⟨fun h => absurd (nI_lt (by omega) (by omega)) h, fun _ => ?_⟩) | (refine ⟨fun _ => ?_, fun h => absurd (nI_lt (by omega) (by omega)) h⟩) | (refine ⟨fun h => absurd ((nI_eq (by omega) (by omega)).mp h) (by omega), fun _ => ?_⟩) | (refine ⟨fun _ => ?_, fun h => absurd ((nI_eq (by omega) (by omega)).mp h) (by omega)⟩) | (refine ⟨fun h => absurd h (by decide), fun _ => ?_⟩) | (refine ⟨fun _ => ?_, fun h => absurd h (by decide)⟩) | (refine ⟨fun h => absurd rfl h, fun _ => ?_⟩) | (refine ⟨fun _ => ?_, fun h => absurd rfl h⟩)))
      rw [decide_eq_false hme]
      by_cases h46 : o = 46
      · have ha0 := atom 24 (Or.inr ⟨rfl, h46⟩)
        subst h46
        (repeat (first | (exact ha0) | (refine px_st rfl rfl ?_; simp only [px_wp, px_at, px_set, px_set2, px_clr, px_ldi, px_ldl, px_lda, px_i1, px_i2, px_l1, px_l2, px_il, px_a1, px_r1, px_r2, px_ir, px_vir, px_g, px_v1, px_v2, px_gf, px_pf, px_ps, px_ar, px_nth, px_upd, px_zero, px_dfl, px_put_self, px_put_ne, px_sw, nI_add, pk_mul, true_and, and_true, Nat.reduceAdd, Nat.reduceLT, Nat.reduceEqDiff, List.length_cons, List.length_nil, true_or, or_true, List.set_set, ne_eq, not_false_eq_true, Fin.isValue, Fin.val_zero, Fin.val_one, Fin.val_two, reduceCtorEq, Option.map_some, List.length_set, Nat.zero_lt_succ, Option.toList_some, Option.toList_none, List.cons_append, List.nil_append, px_b_2, IA, LA, BA, ZA, QA, PT, DR, TL, MC, CD, CC, false_and, or_false, false_or, nar_b, nar_0, nar_1, nar_y]) | (refine ⟨_, rfl, by omega, ?_⟩) | (refine ⟨fun h => absurd h (nI_nlt (by omega) (by omega)), fun _ => ?_⟩) | (refine ⟨fun _ => ?_, fun h => absurd h (nI_nlt (by omega) (by omega))⟩) | (refine ⟨fun h => absurd (nI_lt (by omega) (by omega)) h, fun _ => ?_⟩) | (refine ⟨fun _ => ?_, fun h => absurd (nI_lt (by omega) (by omega)) h⟩) | (refine ⟨fun h => absurd ((nI_eq (by omega) (by omega)).mp h) (by omega), fun _ => ?_⟩) | (refine ⟨fun _ => ?_, fun h => absurd ((nI_eq (by omega) (by omega)).mp h) (by omega)⟩) | (refine ⟨fun h => absurd h (by decide), fun _ => ?_⟩) | (refine ⟨fun _ => ?_, fun h => absurd h (by decide)⟩) | (refine ⟨fun h => absurd rfl h, fun _ => ?_⟩) | (refine ⟨fun _ => ?_, fun h => absurd rfl h⟩)))
      by_cases h39 : o = 39
      · -- an owner's mark
        cases him : im with
        | false =>
          have hn : aT o (ah, dp, pl, al, rw, pc, tk, fl, fh) = none := by
            unfold aT
            simp only
            rw [if_pos h39, if_neg]
            intro q
            obtain ⟨-, -, -, m4, m5, m6⟩ := hMR
            cases hip : ip with
            | false => have := m4 (Or.inl hip); omega
            | true =>
              cases hir : ir with
              | true => have := m4 (Or.inr hir); omega
              | false =>
                have := (m6 hip hir).1
                rw [him] at this
                have this : ah = 2 := this
                omega
          have hq := flt hn ph' hf' ⟨_, _, _, _, _, _, _, _, hc'⟩
          rw [him] at *
          subst h39
          (repeat (first | (refine px_st rfl rfl ?_; simp only [px_wp, px_at, px_set, px_set2, px_clr, px_ldi, px_ldl, px_lda, px_i1, px_i2, px_l1, px_l2, px_il, px_a1, px_r1, px_r2, px_ir, px_vir, px_g, px_v1, px_v2, px_gf, px_pf, px_ps, px_ar, px_nth, px_upd, px_zero, px_dfl, px_put_self, px_put_ne, px_sw, nI_add, pk_mul, true_and, and_true, Nat.reduceAdd, Nat.reduceLT, Nat.reduceEqDiff, List.length_cons, List.length_nil, true_or, or_true, List.set_set, ne_eq, not_false_eq_true, Fin.isValue, Fin.val_zero, Fin.val_one, Fin.val_two, reduceCtorEq, Option.map_some, List.length_set, Nat.zero_lt_succ, Option.toList_some, Option.toList_none, List.cons_append, List.nil_append, px_b_2, IA, LA, BA, ZA, QA, PT, DR, TL, MC, CD, CC, false_and, or_false, false_or, nar_b, nar_0, nar_1, nar_y]) | (refine ⟨_, rfl, by omega, ?_⟩) | (refine ⟨fun h => absurd h (nI_nlt (by omega) (by omega)), fun _ => ?_⟩) | (refine ⟨fun _ => ?_, fun h => absurd h (nI_nlt (by omega) (by omega))⟩) | (refine ⟨fun h => absurd (nI_lt (by omega) (by omega)) h, fun _ => ?_⟩) | (refine ⟨fun _ => ?_, fun h => absurd (nI_lt (by omega) (by omega)) h⟩) | (refine ⟨fun h => absurd ((nI_eq (by omega) (by omega)).mp h) (by omega), fun _ => ?_⟩) | (refine ⟨fun _ => ?_, fun h => absurd ((nI_eq (by omega) (by omega)).mp h) (by omega)⟩) | (refine ⟨fun h => absurd h (by decide), fun _ => ?_⟩) | (refine ⟨fun _ => ?_, fun h => absurd h (by decide)⟩) | (refine ⟨fun h => absurd rfl h, fun _ => ?_⟩) | (refine ⟨fun _ => ?_, fun h => absurd rfl h⟩)))
          exact px_ireturn rfl (Or.inl rfl) (Nat.le_refl _) (Nat.le_refl _) hq
        | true =>
          obtain ⟨m1, m2, m3, m4, m5, m6⟩ := hMR
          obtain ⟨hip, hir⟩ := m5 him
          obtain ⟨n1, n2, n3, n4⟩ := m6 hip hir
          rw [him] at n1
          have n1 : ah = 1 := n1
          obtain ⟨w6, w7⟩ := w5 n1
          have hs : aT o (ah, dp, pl, al, rw, pc, tk, fl, fh) = some (2, dp, pl, al, rw, pc, va_up tk (pl - 1) (tk (pl - 1) + 12), fl, fh) := by
            unfold aT
            simp only
            rw [if_pos h39, if_pos n1]
          obtain ⟨hL2, hw2⟩ := go _ hs
          obtain ⟨mm, em, ha', tk', f1, f2, f3, f4, ⟨z100, z1, z2, z3, z4⟩, ⟨h105, h106, h107, h108, h109⟩, ⟨h110, h102, h103, h104⟩, v1, v2, v3⟩ := hc0
          have htk : tk' (pl - 1) = nI (tk (pl - 1)) := by
            rw [v3 (pl - 1) (by omega)]
            unfold tM
            rw [if_neg (by omega)]
          have hsub : nI pl - nI 1 = nI (pl - 1) := pk_sub (by omega)
          have hc5 : mP m0 F ha pl ip ir (va_up tk (pl - 1) (tk (pl - 1) + 12)) mfl mfh (ph'.set 102 (IA 128 (upd tk' (pl - 1) (nI (tk (pl - 1) + 12))))) := by
            refine ⟨mm, em, ha', upd tk' (pl - 1) (nI (tk (pl - 1) + 12)), f1, f2, f3, f4, ⟨?_, z1, z2, z3, z4⟩, ⟨?_, ?_, ?_, ?_, ?_⟩, ⟨?_, ?_, ?_, ?_⟩, v1, v2, fun j hj => ?_⟩
            rotate_right 1
            · by_cases hjp : j = pl - 1
              · subst hjp
                rw [pk_us, va_up_s]
                unfold tM
                rw [if_neg (by omega)]
              · rw [up_ne hjp, va_up_n hjp]; exact v3 j hj
            all_goals simp only [px_put_self, px_put_ne, z100, h102, h103, h104, h105, h106, h107, h108, h109, h110, Nat.reduceEqDiff, not_false_eq_true, Option.map_some]
          have hMR5 : MR (2, dp, pl, al, rw, pc, va_up tk (pl - 1) (tk (pl - 1) + 12), fl, fh) false ip ir F ha mfl mfh := by
            rw [hip, hir]
            exact MR_pc (im := false) m1 (fun l hl => by
              by_cases hld : l = dp
              · subst hld; exact n3
              · exact m2 l (by omega)) n2 n4
          have hn := nxt _ false ip ir F ha mfl mfh _ hL2 hw2 (fp_set hf' rfl) hMR5 hc5
          have hn : px_W G mX12_parse (d + 4) 0 0 Q 0 0 336 [some (.ref 100), some (.int (nI dp)), some (.int (nI 0)), some (.int (nI i)), some (.int (nI o))] [] (ph'.set 102 (IA 128 (upd tk' (pl - 1) (nI (tk (pl - 1) + 12))))) := hn
          subst h39
          (repeat (first | (exact hn) | (refine px_st rfl rfl ?_; simp only [px_wp, px_at, px_set, px_set2, px_clr, px_ldi, px_ldl, px_lda, px_i1, px_i2, px_l1, px_l2, px_il, px_a1, px_r1, px_r2, px_ir, px_vir, px_g, px_v1, px_v2, px_gf, px_pf, px_ps, px_ar, px_nth, px_upd, px_zero, px_dfl, px_put_self, px_put_ne, px_sw, nI_add, pk_mul, true_and, and_true, Nat.reduceAdd, Nat.reduceLT, Nat.reduceEqDiff, List.length_cons, List.length_nil, true_or, or_true, List.set_set, ne_eq, not_false_eq_true, Fin.isValue, Fin.val_zero, Fin.val_one, Fin.val_two, reduceCtorEq, Option.map_some, List.length_set, Nat.zero_lt_succ, Option.toList_some, Option.toList_none, List.cons_append, List.nil_append, px_b_2, IA, LA, BA, ZA, QA, PT, DR, TL, MC, CD, CC, false_and, or_false, false_or, nar_b, nar_0, nar_1, nar_y, z100, g_takes, g_places, z1, h102, hsub, htk]) | (refine ⟨_, rfl, by omega, ?_⟩) | (refine ⟨fun h => absurd h (nI_nlt (by omega) (by omega)), fun _ => ?_⟩) | (refine ⟨fun _ => ?_, fun h => absurd h (nI_nlt (by omega) (by omega))⟩) | (refine ⟨fun h => absurd (nI_lt (by omega) (by omega)) h, fun _ => ?_⟩) | (refine ⟨fun _ => ?_, fun h => absurd (nI_lt (by omega) (by omega)) h⟩) | (refine ⟨fun h => absurd ((nI_eq (by omega) (by omega)).mp h) (by omega), fun _ => ?_⟩) | (refine ⟨fun _ => ?_, fun h => absurd ((nI_eq (by omega) (by omega)).mp h) (by omega)⟩) | (refine ⟨fun h => absurd h (by decide), fun _ => ?_⟩) | (refine ⟨fun _ => ?_, fun h => absurd h (by decide)⟩) | (refine ⟨fun h => absurd rfl h, fun _ => ?_⟩) | (refine ⟨fun _ => ?_, fun h => absurd rfl h⟩)))
      by_cases hrp : o = 42 ∨ o = 43 ∨ o = 63
      · -- a repeat
        have hTr : aT o (ah, dp, pl, al, rw, pc, tk, fl, fh) = aRep (ah, dp, pl, al, rw, pc, tk, fl, fh) o := by
          unfold aT
          simp only
          rw [if_neg h39, if_pos hrp]
        have at179 : px_W G mX12_parse (d + 4) 0 0 Q 0 0 179 [some (.ref 100), some (.int (nI dp)), some (.int (nI 0)), some (.int (nI i)), some (.int (nI o))] [] ph' := by
          by_cases hno : ip = false ∨ ir = true
          · have hah := hMR.2.2.2.1 hno
            have hn : aT o (ah, dp, pl, al, rw, pc, tk, fl, fh) = none := by
              rw [hTr]
              unfold aRep
              simp only
              rw [if_pos hah]
            have hq := flt hn ph' hf' ⟨_, _, _, _, _, _, _, _, hc'⟩
            rcases hno with hip | hir
            · rw [hip] at e2
              have e2 : m 2 = nI 0 := e2
              (repeat (first | (refine px_st rfl rfl ?_; simp only [px_wp, px_at, px_set, px_set2, px_clr, px_ldi, px_ldl, px_lda, px_i1, px_i2, px_l1, px_l2, px_il, px_a1, px_r1, px_r2, px_ir, px_vir, px_g, px_v1, px_v2, px_gf, px_pf, px_ps, px_ar, px_nth, px_upd, px_zero, px_dfl, px_put_self, px_put_ne, px_sw, nI_add, pk_mul, true_and, and_true, Nat.reduceAdd, Nat.reduceLT, Nat.reduceEqDiff, List.length_cons, List.length_nil, true_or, or_true, List.set_set, ne_eq, not_false_eq_true, Fin.isValue, Fin.val_zero, Fin.val_one, Fin.val_two, reduceCtorEq, Option.map_some, List.length_set, Nat.zero_lt_succ, Option.toList_some, Option.toList_none, List.cons_append, List.nil_append, px_b_2, IA, LA, BA, ZA, QA, PT, DR, TL, MC, CD, CC, false_and, or_false, false_or, nar_b, nar_0, nar_1, nar_y, k100, g_isPiece, e2]) | (refine ⟨_, rfl, by omega, ?_⟩) | (refine ⟨fun h => absurd h (nI_nlt (by omega) (by omega)), fun _ => ?_⟩) | (refine ⟨fun _ => ?_, fun h => absurd h (nI_nlt (by omega) (by omega))⟩) | (refine ⟨fun h => absurd (nI_lt (by omega) (by omega)) h, fun _ => ?_⟩) | (refine ⟨fun _ => ?_, fun h => absurd (nI_lt (by omega) (by omega)) h⟩) | (refine ⟨fun h => absurd ((nI_eq (by omega) (by omega)).mp h) (by omega), fun _ => ?_⟩) | (refine ⟨fun _ => ?_, fun h => absurd ((nI_eq (by omega) (by omega)).mp h) (by omega)⟩) | (refine ⟨fun h => absurd h (by decide), fun _ => ?_⟩) | (refine ⟨fun _ => ?_, fun h => absurd h (by decide)⟩) | (refine ⟨fun h => absurd rfl h, fun _ => ?_⟩) | (refine ⟨fun _ => ?_, fun h => absurd rfl h⟩)))
              exact px_ireturn rfl (Or.inl rfl) (Nat.le_refl _) (Nat.le_refl _) hq
            · rw [hir] at e3
              have e3 : m 3 = nI 1 := e3
              cases hip : ip with
              | false =>
                rw [hip] at e2
                have e2 : m 2 = nI 0 := e2
                (repeat (first | (refine px_st rfl rfl ?_; simp only [px_wp, px_at, px_set, px_set2, px_clr, px_ldi, px_ldl, px_lda, px_i1, px_i2, px_l1, px_l2, px_il, px_a1, px_r1, px_r2, px_ir, px_vir, px_g, px_v1, px_v2, px_gf, px_pf, px_ps, px_ar, px_nth, px_upd, px_zero, px_dfl, px_put_self, px_put_ne, px_sw, nI_add, pk_mul, true_and, and_true, Nat.reduceAdd, Nat.reduceLT, Nat.reduceEqDiff, List.length_cons, List.length_nil, true_or, or_true, List.set_set, ne_eq, not_false_eq_true, Fin.isValue, Fin.val_zero, Fin.val_one, Fin.val_two, reduceCtorEq, Option.map_some, List.length_set, Nat.zero_lt_succ, Option.toList_some, Option.toList_none, List.cons_append, List.nil_append, px_b_2, IA, LA, BA, ZA, QA, PT, DR, TL, MC, CD, CC, false_and, or_false, false_or, nar_b, nar_0, nar_1, nar_y, k100, g_isPiece, e2]) | (refine ⟨_, rfl, by omega, ?_⟩) | (refine ⟨fun h => absurd h (nI_nlt (by omega) (by omega)), fun _ => ?_⟩) | (refine ⟨fun _ => ?_, fun h => absurd h (nI_nlt (by omega) (by omega))⟩) | (refine ⟨fun h => absurd (nI_lt (by omega) (by omega)) h, fun _ => ?_⟩) | (refine ⟨fun _ => ?_, fun h => absurd (nI_lt (by omega) (by omega)) h⟩) | (refine ⟨fun h => absurd ((nI_eq (by omega) (by omega)).mp h) (by omega), fun _ => ?_⟩) | (refine ⟨fun _ => ?_, fun h => absurd ((nI_eq (by omega) (by omega)).mp h) (by omega)⟩) | (refine ⟨fun h => absurd h (by decide), fun _ => ?_⟩) | (refine ⟨fun _ => ?_, fun h => absurd h (by decide)⟩) | (refine ⟨fun h => absurd rfl h, fun _ => ?_⟩) | (refine ⟨fun _ => ?_, fun h => absurd rfl h⟩)))
                exact px_ireturn rfl (Or.inl rfl) (Nat.le_refl _) (Nat.le_refl _) hq
              | true =>
                rw [hip] at e2
                have e2 : m 2 = nI 1 := e2
                (repeat (first | (refine px_st rfl rfl ?_; simp only [px_wp, px_at, px_set, px_set2, px_clr, px_ldi, px_ldl, px_lda, px_i1, px_i2, px_l1, px_l2, px_il, px_a1, px_r1, px_r2, px_ir, px_vir, px_g, px_v1, px_v2, px_gf, px_pf, px_ps, px_ar, px_nth, px_upd, px_zero, px_dfl, px_put_self, px_put_ne, px_sw, nI_add, pk_mul, true_and, and_true, Nat.reduceAdd, Nat.reduceLT, Nat.reduceEqDiff, List.length_cons, List.length_nil, true_or, or_true, List.set_set, ne_eq, not_false_eq_true, Fin.isValue, Fin.val_zero, Fin.val_one, Fin.val_two, reduceCtorEq, Option.map_some, List.length_set, Nat.zero_lt_succ, Option.toList_some, Option.toList_none, List.cons_append, List.nil_append, px_b_2, IA, LA, BA, ZA, QA, PT, DR, TL, MC, CD, CC, false_and, or_false, false_or, nar_b, nar_0, nar_1, nar_y, k100, g_isPiece, g_isRepeated, e2, e3]) | (refine ⟨_, rfl, by omega, ?_⟩) | (refine ⟨fun h => absurd h (nI_nlt (by omega) (by omega)), fun _ => ?_⟩) | (refine ⟨fun _ => ?_, fun h => absurd h (nI_nlt (by omega) (by omega))⟩) | (refine ⟨fun h => absurd (nI_lt (by omega) (by omega)) h, fun _ => ?_⟩) | (refine ⟨fun _ => ?_, fun h => absurd (nI_lt (by omega) (by omega)) h⟩) | (refine ⟨fun h => absurd ((nI_eq (by omega) (by omega)).mp h) (by omega), fun _ => ?_⟩) | (refine ⟨fun _ => ?_, fun h => absurd ((nI_eq (by omega) (by omega)).mp h) (by omega)⟩) | (refine ⟨fun h => absurd h (by decide), fun _ => ?_⟩) | (refine ⟨fun _ => ?_, fun h => absurd h (by decide)⟩) | (refine ⟨fun h => absurd rfl h, fun _ => ?_⟩) | (refine ⟨fun _ => ?_, fun h => absurd rfl h⟩)))
                exact px_ireturn rfl (Or.inl rfl) (Nat.le_refl _) (Nat.le_refl _) hq
          · have hip : ip = true := by
              cases hq : ip with
              | true => rfl
              | false => exact absurd (Or.inl hq) hno
            have hir : ir = false := by
              cases hq : ir with
              | false => rfl
              | true => exact absurd (Or.inr hq) hno
            obtain ⟨m1, m2, m3, m4, m5, m6⟩ := hMR
            obtain ⟨n1, n2, n3, n4⟩ := m6 hip hir
            have hah : ¬ ah = 0 := by
              rw [n1]
              cases im <;> simp
            rw [hip] at e2
            rw [hir] at e3
            have e2 : m 2 = nI 1 := e2
            have e3 : m 3 = nI 0 := e3
            have hs : aT o (ah, dp, pl, al, rw, pc, tk, fl, fh) = some (0, (aEnd (ah, dp, pl, al, rw, (pc.1, pc.2.1, pc.2.2.1, pc.2.2.2.1, pc.2.2.2.2 || !decide (o = 43)), tk, if o = 63 then fl else pLk pl pc pc.1 fl, if o = 63 then fh else pLk pl pc pc.2.1 fh)).2) := by
              rw [hTr]
              unfold aRep
              simp only
              rw [if_neg hah]
            obtain ⟨hL2, hw2⟩ := go _ hs
            -- behind the lead
            have rest : ∀ (fl2 fh2 : Nat → Int64) (ph2 : List px_E), fr FP ph ph2 → (∀ j, j < pl → (if o = 63 then fl else pLk pl pc pc.1 fl) j = fl2 j ∧ (if o = 63 then fh else pLk pl pc pc.2.1 fh) j = fh2 j) → mP m0 F ha pl ip true tk fl2 fh2 ph2 → px_W G mX12_parse (d + 4) 0 0 Q 0 0 215 [some (.ref 100), some (.int (nI dp)), some (.int (nI 0)), some (.int (nI i)), some (.int (nI o))] [] ph2 := by
              intro fl2 fh2 ph2 hf2 hfl2 hc2
              obtain ⟨mm, em, ha', tk', f1, f2, f3, f4, ⟨z100, z1, z2, z3, z4⟩, ⟨h105, h106, h107, h108, h109⟩, ⟨h110, h102, h103, h104⟩, v1, v2, v3⟩ := hc2
              obtain ⟨p1, p2, p3, p4, p5⟩ := v1 30 (by omega)
              have fin : ∀ b : Bool, b = ((F 30).2.2.2.2 || !decide (o = 43)) → px_W G mX12_parse (d + 4) 0 0 Q 0 0 336 [some (.ref 100), some (.int (nI dp)), some (.int (nI 0)), some (.int (nI i)), some (.int (nI o))] [] (ph2.set 105 (ZA 40 (upd em 30 (px_b b)))) := by
                intro b hb
                have hc5 : mP m0 (va_up F 30 ((F 30).1, (F 30).2.1, (F 30).2.2.1, (F 30).2.2.2.1, b)) ha pl ip true tk fl2 fh2 (ph2.set 105 (ZA 40 (upd em 30 (px_b b)))) := by
                  refine ⟨mm, upd em 30 (px_b b), ha', tk', f1, f2, f3, f4, ⟨?_, z1, z2, z3, z4⟩, ⟨?_, ?_, ?_, ?_, ?_⟩, ⟨?_, ?_, ?_, ?_⟩, fun j hj => ?_, v2, v3⟩
                  rotate_right 1
                  · by_cases hj3 : j = 30
                    · subst hj3
                      rw [pk_us, va_up_s]
                      exact ⟨rfl, p2, p3, p4, p5⟩
                    · rw [up_ne hj3, va_up_n hj3]; exact v1 j hj
                  all_goals simp only [px_put_self, px_put_ne, z100, h102, h103, h104, h105, h106, h107, h108, h109, h110, Nat.reduceEqDiff, not_false_eq_true, Option.map_some]
                have hMR5 : MR (0, (aEnd (ah, dp, pl, al, rw, (pc.1, pc.2.1, pc.2.2.1, pc.2.2.2.1, pc.2.2.2.2 || !decide (o = 43)), tk, if o = 63 then fl else pLk pl pc pc.1 fl, if o = 63 then fh else pLk pl pc pc.2.1 fh)).2) false ip true (va_up F 30 ((F 30).1, (F 30).2.1, (F 30).2.2.1, (F 30).2.2.2.1, b)) ha fl2 fh2 := by
                  unfold aEnd
                  simp only
                  rw [if_neg hah]
                  refine ⟨fun l hl => ?_, fun l hl => ?_, ?_, fun _ => rfl, fun q => (by cases q), fun _ q => (by cases q)⟩
                  · rw [va_up_n (by omega)]; exact m1 l hl
                  · rw [va_up_n (by omega), va_up_n (by omega)]; exact m2 l hl
                  · unfold aEnd tPF tPl
                    simp only [if_true]
                    rw [hip, if_pos rfl, if_pos rfl, if_pos rfl, va_up_s, va_up_s, va_up_n (by omega), va_up_s, n3, n2, ← hb]
                    refine ⟨rfl, fun j hj => ?_⟩
                    rw [n2] at hfl2
                    exact ⟨pLk_eq (fun y hy => (hfl2 y hy).1) j hj, pLk_eq (fun y hy => (hfl2 y hy).2) j hj⟩
                have e5 := aEnd_1 (s := (ah, dp, pl, al, rw, (pc.1, pc.2.1, pc.2.2.1, pc.2.2.2.1, pc.2.2.2.2 || !decide (o = 43)), tk, if o = 63 then fl else pLk pl pc pc.1 fl, if o = 63 then fh else pLk pl pc pc.2.1 fh))
                have hn := nxt _ false ip true _ ha fl2 fh2 _ hL2 hw2 (fp_set hf2 rfl) hMR5 (by
                  show mP m0 _ ha (aEnd (ah, dp, pl, al, rw, (pc.1, pc.2.1, pc.2.2.1, pc.2.2.2.1, pc.2.2.2.2 || !decide (o = 43)), tk, if o = 63 then fl else pLk pl pc pc.1 fl, if o = 63 then fh else pLk pl pc pc.2.1 fh)).2.2.1 ip true (aEnd (ah, dp, pl, al, rw, (pc.1, pc.2.1, pc.2.2.1, pc.2.2.2.1, pc.2.2.2.2 || !decide (o = 43)), tk, if o = 63 then fl else pLk pl pc pc.1 fl, if o = 63 then fh else pLk pl pc pc.2.1 fh)).2.2.2.2.2.2.1 fl2 fh2 _
                  rw [e5.2.2.1, e5.2.2.2]
                  exact hc5)
                have hn : px_W G mX12_parse (d + 4) 0 0 Q 0 0 336 [some (.ref 100), some (.int (nI (aEnd (ah, dp, pl, al, rw, (pc.1, pc.2.1, pc.2.2.1, pc.2.2.2.1, pc.2.2.2.2 || !decide (o = 43)), tk, if o = 63 then fl else pLk pl pc pc.1 fl, if o = 63 then fh else pLk pl pc pc.2.1 fh)).2.1)), some (.int (nI 0)), some (.int (nI i)), some (.int (nI o))] [] (ph2.set 105 (ZA 40 (upd em 30 (px_b b)))) := hn
                rw [e5.2.1] at hn
                exact hn
              cases hz : (F 30).2.2.2.2 with
              | true =>
                rw [hz] at p1
                have p1 : em 30 = nI 1 := p1
                have hfn := fin true (by rw [hz]; rfl)
                (repeat (first | (exact hfn) | (refine px_st rfl rfl ?_; simp only [px_wp, px_at, px_set, px_set2, px_clr, px_ldi, px_ldl, px_lda, px_i1, px_i2, px_l1, px_l2, px_il, px_a1, px_r1, px_r2, px_ir, px_vir, px_g, px_v1, px_v2, px_gf, px_pf, px_ps, px_ar, px_nth, px_upd, px_zero, px_dfl, px_put_self, px_put_ne, px_sw, nI_add, pk_mul, true_and, and_true, Nat.reduceAdd, Nat.reduceLT, Nat.reduceEqDiff, List.length_cons, List.length_nil, true_or, or_true, List.set_set, ne_eq, not_false_eq_true, Fin.isValue, Fin.val_zero, Fin.val_one, Fin.val_two, reduceCtorEq, Option.map_some, List.length_set, Nat.zero_lt_succ, Option.toList_some, Option.toList_none, List.cons_append, List.nil_append, px_b_2, IA, LA, BA, ZA, QA, PT, DR, TL, MC, CD, CC, false_and, or_false, false_or, nar_b, nar_0, nar_1, nar_y, z100, g_empty, h105, p1]) | (refine ⟨_, rfl, by omega, ?_⟩) | (refine ⟨fun h => absurd h (nI_nlt (by omega) (by omega)), fun _ => ?_⟩) | (refine ⟨fun _ => ?_, fun h => absurd h (nI_nlt (by omega) (by omega))⟩) | (refine ⟨fun h => absurd (nI_lt (by omega) (by omega)) h, fun _ => ?_⟩) | (refine ⟨fun _ => ?_, fun h => absurd (nI_lt (by omega) (by omega)) h⟩) | (refine ⟨fun h => absurd ((nI_eq (by omega) (by omega)).mp h) (by omega), fun _ => ?_⟩) | (refine ⟨fun _ => ?_, fun h => absurd ((nI_eq (by omega) (by omega)).mp h) (by omega)⟩) | (refine ⟨fun h => absurd h (by decide), fun _ => ?_⟩) | (refine ⟨fun _ => ?_, fun h => absurd h (by decide)⟩) | (refine ⟨fun h => absurd rfl h, fun _ => ?_⟩) | (refine ⟨fun _ => ?_, fun h => absurd rfl h⟩)))
              | false =>
                rw [hz] at p1
                have p1 : em 30 = nI 0 := p1
                by_cases h43 : o = 43
                · have hfn := fin false (by rw [hz, decide_eq_true h43]; rfl)
                  subst h43
                  (repeat (first | (exact hfn) | (refine px_st rfl rfl ?_; simp only [px_wp, px_at, px_set, px_set2, px_clr, px_ldi, px_ldl, px_lda, px_i1, px_i2, px_l1, px_l2, px_il, px_a1, px_r1, px_r2, px_ir, px_vir, px_g, px_v1, px_v2, px_gf, px_pf, px_ps, px_ar, px_nth, px_upd, px_zero, px_dfl, px_put_self, px_put_ne, px_sw, nI_add, pk_mul, true_and, and_true, Nat.reduceAdd, Nat.reduceLT, Nat.reduceEqDiff, List.length_cons, List.length_nil, true_or, or_true, List.set_set, ne_eq, not_false_eq_true, Fin.isValue, Fin.val_zero, Fin.val_one, Fin.val_two, reduceCtorEq, Option.map_some, List.length_set, Nat.zero_lt_succ, Option.toList_some, Option.toList_none, List.cons_append, List.nil_append, px_b_2, IA, LA, BA, ZA, QA, PT, DR, TL, MC, CD, CC, false_and, or_false, false_or, nar_b, nar_0, nar_1, nar_y, z100, g_empty, h105, p1]) | (refine ⟨_, rfl, by omega, ?_⟩) | (refine ⟨fun h => absurd h (nI_nlt (by omega) (by omega)), fun _ => ?_⟩) | (refine ⟨fun _ => ?_, fun h => absurd h (nI_nlt (by omega) (by omega))⟩) | (refine ⟨fun h => absurd (nI_lt (by omega) (by omega)) h, fun _ => ?_⟩) | (refine ⟨fun _ => ?_, fun h => absurd (nI_lt (by omega) (by omega)) h⟩) | (refine ⟨fun h => absurd ((nI_eq (by omega) (by omega)).mp h) (by omega), fun _ => ?_⟩) | (refine ⟨fun _ => ?_, fun h => absurd ((nI_eq (by omega) (by omega)).mp h) (by omega)⟩) | (refine ⟨fun h => absurd h (by decide), fun _ => ?_⟩) | (refine ⟨fun _ => ?_, fun h => absurd h (by decide)⟩) | (refine ⟨fun h => absurd rfl h, fun _ => ?_⟩) | (refine ⟨fun _ => ?_, fun h => absurd rfl h⟩)))
                · have hfn := fin true (by rw [hz, decide_eq_false h43]; rfl)
                  (repeat (first | (exact hfn) | (refine px_st rfl rfl ?_; simp only [px_wp, px_at, px_set, px_set2, px_clr, px_ldi, px_ldl, px_lda, px_i1, px_i2, px_l1, px_l2, px_il, px_a1, px_r1, px_r2, px_ir, px_vir, px_g, px_v1, px_v2, px_gf, px_pf, px_ps, px_ar, px_nth, px_upd, px_zero, px_dfl, px_put_self, px_put_ne, px_sw, nI_add, pk_mul, true_and, and_true, Nat.reduceAdd, Nat.reduceLT, Nat.reduceEqDiff, List.length_cons, List.length_nil, true_or, or_true, List.set_set, ne_eq, not_false_eq_true, Fin.isValue, Fin.val_zero, Fin.val_one, Fin.val_two, reduceCtorEq, Option.map_some, List.length_set, Nat.zero_lt_succ, Option.toList_some, Option.toList_none, List.cons_append, List.nil_append, px_b_2, IA, LA, BA, ZA, QA, PT, DR, TL, MC, CD, CC, false_and, or_false, false_or, nar_b, nar_0, nar_1, nar_y, z100, g_empty, h105, p1]) | (refine ⟨_, rfl, by omega, ?_⟩) | (refine ⟨fun h => absurd h (nI_nlt (by omega) (by omega)), fun _ => ?_⟩) | (refine ⟨fun _ => ?_, fun h => absurd h (nI_nlt (by omega) (by omega))⟩) | (refine ⟨fun h => absurd (nI_lt (by omega) (by omega)) h, fun _ => ?_⟩) | (refine ⟨fun _ => ?_, fun h => absurd (nI_lt (by omega) (by omega)) h⟩) | (refine ⟨fun h => absurd ((nI_eq (by omega) (by omega)).mp h) (by omega), fun _ => ?_⟩) | (refine ⟨fun _ => ?_, fun h => absurd ((nI_eq (by omega) (by omega)).mp h) (by omega)⟩) | (refine ⟨fun h => absurd h (by decide), fun _ => ?_⟩) | (refine ⟨fun _ => ?_, fun h => absurd h (by decide)⟩) | (refine ⟨fun h => absurd rfl h, fun _ => ?_⟩) | (refine ⟨fun _ => ?_, fun h => absurd rfl h⟩)))
            have hc2 := hsir true
            have hc2 : mP m0 F ha pl ip true tk mfl mfh (ph'.set 100 (MD (upd m 3 (nI 1)))) := hc2
            by_cases h63 : o = 63
            · have hr := rest mfl mfh _ (fp_set hf' rfl) (fun j hj => by rw [if_pos h63, if_pos h63]; exact n4 j hj) hc2
              subst h63
              (repeat (first | (exact hr) | (refine px_st rfl rfl ?_; simp only [px_wp, px_at, px_set, px_set2, px_clr, px_ldi, px_ldl, px_lda, px_i1, px_i2, px_l1, px_l2, px_il, px_a1, px_r1, px_r2, px_ir, px_vir, px_g, px_v1, px_v2, px_gf, px_pf, px_ps, px_ar, px_nth, px_upd, px_zero, px_dfl, px_put_self, px_put_ne, px_sw, nI_add, pk_mul, true_and, and_true, Nat.reduceAdd, Nat.reduceLT, Nat.reduceEqDiff, List.length_cons, List.length_nil, true_or, or_true, List.set_set, ne_eq, not_false_eq_true, Fin.isValue, Fin.val_zero, Fin.val_one, Fin.val_two, reduceCtorEq, Option.map_some, List.length_set, Nat.zero_lt_succ, Option.toList_some, Option.toList_none, List.cons_append, List.nil_append, px_b_2, IA, LA, BA, ZA, QA, PT, DR, TL, MC, CD, CC, false_and, or_false, false_or, nar_b, nar_0, nar_1, nar_y, k100, g_isPiece, g_isRepeated, p_isRepeated, md_len, e2, e3]) | (refine ⟨_, rfl, by omega, ?_⟩) | (refine ⟨fun h => absurd h (nI_nlt (by omega) (by omega)), fun _ => ?_⟩) | (refine ⟨fun _ => ?_, fun h => absurd h (nI_nlt (by omega) (by omega))⟩) | (refine ⟨fun h => absurd (nI_lt (by omega) (by omega)) h, fun _ => ?_⟩) | (refine ⟨fun _ => ?_, fun h => absurd (nI_lt (by omega) (by omega)) h⟩) | (refine ⟨fun h => absurd ((nI_eq (by omega) (by omega)).mp h) (by omega), fun _ => ?_⟩) | (refine ⟨fun _ => ?_, fun h => absurd ((nI_eq (by omega) (by omega)).mp h) (by omega)⟩) | (refine ⟨fun h => absurd h (by decide), fun _ => ?_⟩) | (refine ⟨fun _ => ?_, fun h => absurd h (by decide)⟩) | (refine ⟨fun h => absurd rfl h, fun _ => ?_⟩) | (refine ⟨fun _ => ?_, fun h => absurd rfl h⟩)))
            · have j100 : (ph'.set 100 (MD (upd m 3 (nI 1))))[100]? = some (MD (upd m 3 (nI 1))) := px_put_self.trans (by rw [k100]; rfl)
              (repeat (first | (refine px_st rfl rfl ?_; simp only [px_wp, px_at, px_set, px_set2, px_clr, px_ldi, px_ldl, px_lda, px_i1, px_i2, px_l1, px_l2, px_il, px_a1, px_r1, px_r2, px_ir, px_vir, px_g, px_v1, px_v2, px_gf, px_pf, px_ps, px_ar, px_nth, px_upd, px_zero, px_dfl, px_put_self, px_put_ne, px_sw, nI_add, pk_mul, true_and, and_true, Nat.reduceAdd, Nat.reduceLT, Nat.reduceEqDiff, List.length_cons, List.length_nil, true_or, or_true, List.set_set, ne_eq, not_false_eq_true, Fin.isValue, Fin.val_zero, Fin.val_one, Fin.val_two, reduceCtorEq, Option.map_some, List.length_set, Nat.zero_lt_succ, Option.toList_some, Option.toList_none, List.cons_append, List.nil_append, px_b_2, IA, LA, BA, ZA, QA, PT, DR, TL, MC, CD, CC, false_and, or_false, false_or, nar_b, nar_0, nar_1, nar_y, k100, g_isPiece, g_isRepeated, p_isRepeated, md_len, e2, e3]) | (refine ⟨_, rfl, by omega, ?_⟩) | (refine ⟨fun h => absurd h (nI_nlt (by omega) (by omega)), fun _ => ?_⟩) | (refine ⟨fun _ => ?_, fun h => absurd h (nI_nlt (by omega) (by omega))⟩) | (refine ⟨fun h => absurd (nI_lt (by omega) (by omega)) h, fun _ => ?_⟩) | (refine ⟨fun _ => ?_, fun h => absurd (nI_lt (by omega) (by omega)) h⟩) | (refine ⟨fun h => absurd ((nI_eq (by omega) (by omega)).mp h) (by omega), fun _ => ?_⟩) | (refine ⟨fun _ => ?_, fun h => absurd ((nI_eq (by omega) (by omega)).mp h) (by omega)⟩) | (refine ⟨fun h => absurd h (by decide), fun _ => ?_⟩) | (refine ⟨fun _ => ?_, fun h => absurd h (by decide)⟩) | (refine ⟨fun h => absurd rfl h, fun _ => ?_⟩) | (refine ⟨fun _ => ?_, fun h => absurd rfl h⟩)))
              refine px_cV rfl rfl kX12_lead rfl (c_N_lead2 (d := d + 3) (show 30 < 40 by omega) (show 30 < 40 by omega) (show pl ≤ 128 by omega) hc2 (fun ph3 hf3 hc3 => ?_)) (Nat.le_refl _) j100 rfl rfl rfl (Nat.le_of_ble_eq_true rfl) (Nat.zero_le _) (Nat.zero_le _)
              exact rest _ _ ph3 (fr_tr (fp_set hf' rfl) hf3) (fun j hj => by
                rw [if_neg h63, if_neg h63, n2]
                exact ⟨pLk_eq (fun y hy => (n4 y hy).1) j hj, pLk_eq (fun y hy => (n4 y hy).2) j hj⟩) hc3
        rcases hrp with rfl | rfl | rfl
        · (repeat (first | (exact at179) | (refine px_st rfl rfl ?_; simp only [px_wp, px_at, px_set, px_set2, px_clr, px_ldi, px_ldl, px_lda, px_i1, px_i2, px_l1, px_l2, px_il, px_a1, px_r1, px_r2, px_ir, px_vir, px_g, px_v1, px_v2, px_gf, px_pf, px_ps, px_ar, px_nth, px_upd, px_zero, px_dfl, px_put_self, px_put_ne, px_sw, nI_add, pk_mul, true_and, and_true, Nat.reduceAdd, Nat.reduceLT, Nat.reduceEqDiff, List.length_cons, List.length_nil, true_or, or_true, List.set_set, ne_eq, not_false_eq_true, Fin.isValue, Fin.val_zero, Fin.val_one, Fin.val_two, reduceCtorEq, Option.map_some, List.length_set, Nat.zero_lt_succ, Option.toList_some, Option.toList_none, List.cons_append, List.nil_append, px_b_2, IA, LA, BA, ZA, QA, PT, DR, TL, MC, CD, CC, false_and, or_false, false_or, nar_b, nar_0, nar_1, nar_y]) | (refine ⟨_, rfl, by omega, ?_⟩) | (refine ⟨fun h => absurd h (nI_nlt (by omega) (by omega)), fun _ => ?_⟩) | (refine ⟨fun _ => ?_, fun h => absurd h (nI_nlt (by omega) (by omega))⟩) | (refine ⟨fun h => absurd (nI_lt (by omega) (by omega)) h, fun _ => ?_⟩) | (refine ⟨fun _ => ?_, fun h => absurd (nI_lt (by omega) (by omega)) h⟩) | (refine ⟨fun h => absurd ((nI_eq (by omega) (by omega)).mp h) (by omega), fun _ => ?_⟩) | (refine ⟨fun _ => ?_, fun h => absurd ((nI_eq (by omega) (by omega)).mp h) (by omega)⟩) | (refine ⟨fun h => absurd h (by decide), fun _ => ?_⟩) | (refine ⟨fun _ => ?_, fun h => absurd h (by decide)⟩) | (refine ⟨fun h => absurd rfl h, fun _ => ?_⟩) | (refine ⟨fun _ => ?_, fun h => absurd rfl h⟩)))
        · (repeat (first | (exact at179) | (refine px_st rfl rfl ?_; simp only [px_wp, px_at, px_set, px_set2, px_clr, px_ldi, px_ldl, px_lda, px_i1, px_i2, px_l1, px_l2, px_il, px_a1, px_r1, px_r2, px_ir, px_vir, px_g, px_v1, px_v2, px_gf, px_pf, px_ps, px_ar, px_nth, px_upd, px_zero, px_dfl, px_put_self, px_put_ne, px_sw, nI_add, pk_mul, true_and, and_true, Nat.reduceAdd, Nat.reduceLT, Nat.reduceEqDiff, List.length_cons, List.length_nil, true_or, or_true, List.set_set, ne_eq, not_false_eq_true, Fin.isValue, Fin.val_zero, Fin.val_one, Fin.val_two, reduceCtorEq, Option.map_some, List.length_set, Nat.zero_lt_succ, Option.toList_some, Option.toList_none, List.cons_append, List.nil_append, px_b_2, IA, LA, BA, ZA, QA, PT, DR, TL, MC, CD, CC, false_and, or_false, false_or, nar_b, nar_0, nar_1, nar_y]) | (refine ⟨_, rfl, by omega, ?_⟩) | (refine ⟨fun h => absurd h (nI_nlt (by omega) (by omega)), fun _ => ?_⟩) | (refine ⟨fun _ => ?_, fun h => absurd h (nI_nlt (by omega) (by omega))⟩) | (refine ⟨fun h => absurd (nI_lt (by omega) (by omega)) h, fun _ => ?_⟩) | (refine ⟨fun _ => ?_, fun h => absurd (nI_lt (by omega) (by omega)) h⟩) | (refine ⟨fun h => absurd ((nI_eq (by omega) (by omega)).mp h) (by omega), fun _ => ?_⟩) | (refine ⟨fun _ => ?_, fun h => absurd ((nI_eq (by omega) (by omega)).mp h) (by omega)⟩) | (refine ⟨fun h => absurd h (by decide), fun _ => ?_⟩) | (refine ⟨fun _ => ?_, fun h => absurd h (by decide)⟩) | (refine ⟨fun h => absurd rfl h, fun _ => ?_⟩) | (refine ⟨fun _ => ?_, fun h => absurd rfl h⟩)))
        · (repeat (first | (exact at179) | (refine px_st rfl rfl ?_; simp only [px_wp, px_at, px_set, px_set2, px_clr, px_ldi, px_ldl, px_lda, px_i1, px_i2, px_l1, px_l2, px_il, px_a1, px_r1, px_r2, px_ir, px_vir, px_g, px_v1, px_v2, px_gf, px_pf, px_ps, px_ar, px_nth, px_upd, px_zero, px_dfl, px_put_self, px_put_ne, px_sw, nI_add, pk_mul, true_and, and_true, Nat.reduceAdd, Nat.reduceLT, Nat.reduceEqDiff, List.length_cons, List.length_nil, true_or, or_true, List.set_set, ne_eq, not_false_eq_true, Fin.isValue, Fin.val_zero, Fin.val_one, Fin.val_two, reduceCtorEq, Option.map_some, List.length_set, Nat.zero_lt_succ, Option.toList_some, Option.toList_none, List.cons_append, List.nil_append, px_b_2, IA, LA, BA, ZA, QA, PT, DR, TL, MC, CD, CC, false_and, or_false, false_or, nar_b, nar_0, nar_1, nar_y]) | (refine ⟨_, rfl, by omega, ?_⟩) | (refine ⟨fun h => absurd h (nI_nlt (by omega) (by omega)), fun _ => ?_⟩) | (refine ⟨fun _ => ?_, fun h => absurd h (nI_nlt (by omega) (by omega))⟩) | (refine ⟨fun h => absurd (nI_lt (by omega) (by omega)) h, fun _ => ?_⟩) | (refine ⟨fun _ => ?_, fun h => absurd (nI_lt (by omega) (by omega)) h⟩) | (refine ⟨fun h => absurd ((nI_eq (by omega) (by omega)).mp h) (by omega), fun _ => ?_⟩) | (refine ⟨fun _ => ?_, fun h => absurd ((nI_eq (by omega) (by omega)).mp h) (by omega)⟩) | (refine ⟨fun h => absurd h (by decide), fun _ => ?_⟩) | (refine ⟨fun _ => ?_, fun h => absurd h (by decide)⟩) | (refine ⟨fun h => absurd rfl h, fun _ => ?_⟩) | (refine ⟨fun _ => ?_, fun h => absurd rfl h⟩)))
      have hT2 := hT2 h39 hrp
      have n42 : ¬ o = 42 := fun q => hrp (Or.inl q)
      have n43 : ¬ o = 43 := fun q => hrp (Or.inr (Or.inl q))
      have n63 : ¬ o = 63 := fun q => hrp (Or.inr (Or.inr q))
      by_cases h124 : o = 124
      · have hs : aT o (ah, dp, pl, al, rw, pc, tk, fl, fh) = some (0, dp, pl, va_up al dp (pJn (al dp) (rw' dp)), va_up rw' dp pEm, pc', tk, fl', fh') := by
          rw [hT2, h124]
          rfl
        obtain ⟨hL2, hw2⟩ := go _ hs
        subst h124
        (repeat (first | (refine px_st rfl rfl ?_; simp only [px_wp, px_at, px_set, px_set2, px_clr, px_ldi, px_ldl, px_lda, px_i1, px_i2, px_l1, px_l2, px_il, px_a1, px_r1, px_r2, px_ir, px_vir, px_g, px_v1, px_v2, px_gf, px_pf, px_ps, px_ar, px_nth, px_upd, px_zero, px_dfl, px_put_self, px_put_ne, px_sw, nI_add, pk_mul, true_and, and_true, Nat.reduceAdd, Nat.reduceLT, Nat.reduceEqDiff, List.length_cons, List.length_nil, true_or, or_true, List.set_set, ne_eq, not_false_eq_true, Fin.isValue, Fin.val_zero, Fin.val_one, Fin.val_two, reduceCtorEq, Option.map_some, List.length_set, Nat.zero_lt_succ, Option.toList_some, Option.toList_none, List.cons_append, List.nil_append, px_b_2, IA, LA, BA, ZA, QA, PT, DR, TL, MC, CD, CC, false_and, or_false, false_or, nar_b, nar_0, nar_1, nar_y]) | (refine ⟨_, rfl, by omega, ?_⟩) | (refine ⟨fun h => absurd h (nI_nlt (by omega) (by omega)), fun _ => ?_⟩) | (refine ⟨fun _ => ?_, fun h => absurd h (nI_nlt (by omega) (by omega))⟩) | (refine ⟨fun h => absurd (nI_lt (by omega) (by omega)) h, fun _ => ?_⟩) | (refine ⟨fun _ => ?_, fun h => absurd (nI_lt (by omega) (by omega)) h⟩) | (refine ⟨fun h => absurd ((nI_eq (by omega) (by omega)).mp h) (by omega), fun _ => ?_⟩) | (refine ⟨fun _ => ?_, fun h => absurd ((nI_eq (by omega) (by omega)).mp h) (by omega)⟩) | (refine ⟨fun h => absurd h (by decide), fun _ => ?_⟩) | (refine ⟨fun _ => ?_, fun h => absurd h (by decide)⟩) | (refine ⟨fun h => absurd rfl h, fun _ => ?_⟩) | (refine ⟨fun _ => ?_, fun h => absurd rfl h⟩)))
        refine px_cV rfl rfl kX12_takeSequence rfl (c_N_takeSequence (d := d) (show dp < 11 by omega) (show pl ≤ 128 by omega) hc0 (fun ph2 hf2 hc2 => ?_)) (Nat.le_refl _) k100 rfl rfl rfl (Nat.le_of_ble_eq_true rfl) (Nat.zero_le _) (Nat.zero_le _)
        generalize tPF dp ip F = F1 at hc2 g1 g2
        generalize tPl dp pl ip F (F 30).1 mfl = fl1 at hc2 g3
        generalize tPl dp pl ip F (F 30).2.1 mfh = fh1 at hc2 g3
        have hMR5 : MR (0, dp, pl, va_up al dp (pJn (al dp) (rw' dp)), va_up rw' dp pEm, pc', tk, fl', fh') false false ir (sqF dp (ha dp) F1) (va_up ha dp true) fl1 fh1 := by
          refine MR_no (fun l hl => ?_) (fun l hl => ?_) g3
          · by_cases hld : l = dp
            · subst hld
              rw [va_up_s, va_up_s, if_pos rfl]
              exact sq_al g1 g2
            · rw [va_up_n hld, va_up_n hld, g1 l hl]
              unfold sqF
              rw [va_up_n (by omega), va_up_n (by omega)]
          · by_cases hld : l = dp
            · subst hld
              rw [va_up_s]
              unfold sqF
              rw [va_up_s]
            · rw [va_up_n hld, g2 l hl]
              unfold sqF
              rw [va_up_n (by omega), va_up_n (by omega)]
        have hn := nxt _ false false ir _ _ fl1 fh1 ph2 hL2 hw2 (fr_tr hf' hf2) hMR5 hc2
        have hn : px_W G mX12_parse (d + 4) 0 0 Q 0 0 336 [some (.ref 100), some (.int (nI dp)), some (.int (nI 0)), some (.int (nI i)), some (.int (nI 124))] [] ph2 := hn
        (repeat (first | (exact hn) | (refine px_st rfl rfl ?_; simp only [px_wp, px_at, px_set, px_set2, px_clr, px_ldi, px_ldl, px_lda, px_i1, px_i2, px_l1, px_l2, px_il, px_a1, px_r1, px_r2, px_ir, px_vir, px_g, px_v1, px_v2, px_gf, px_pf, px_ps, px_ar, px_nth, px_upd, px_zero, px_dfl, px_put_self, px_put_ne, px_sw, nI_add, pk_mul, true_and, and_true, Nat.reduceAdd, Nat.reduceLT, Nat.reduceEqDiff, List.length_cons, List.length_nil, true_or, or_true, List.set_set, ne_eq, not_false_eq_true, Fin.isValue, Fin.val_zero, Fin.val_one, Fin.val_two, reduceCtorEq, Option.map_some, List.length_set, Nat.zero_lt_succ, Option.toList_some, Option.toList_none, List.cons_append, List.nil_append, px_b_2, IA, LA, BA, ZA, QA, PT, DR, TL, MC, CD, CC, false_and, or_false, false_or, nar_b, nar_0, nar_1, nar_y]) | (refine ⟨_, rfl, by omega, ?_⟩) | (refine ⟨fun h => absurd h (nI_nlt (by omega) (by omega)), fun _ => ?_⟩) | (refine ⟨fun _ => ?_, fun h => absurd h (nI_nlt (by omega) (by omega))⟩) | (refine ⟨fun h => absurd (nI_lt (by omega) (by omega)) h, fun _ => ?_⟩) | (refine ⟨fun _ => ?_, fun h => absurd (nI_lt (by omega) (by omega)) h⟩) | (refine ⟨fun h => absurd ((nI_eq (by omega) (by omega)).mp h) (by omega), fun _ => ?_⟩) | (refine ⟨fun _ => ?_, fun h => absurd ((nI_eq (by omega) (by omega)).mp h) (by omega)⟩) | (refine ⟨fun h => absurd h (by decide), fun _ => ?_⟩) | (refine ⟨fun _ => ?_, fun h => absurd h (by decide)⟩) | (refine ⟨fun h => absurd rfl h, fun _ => ?_⟩) | (refine ⟨fun _ => ?_, fun h => absurd rfl h⟩)))
      by_cases h40 : o = 40
      · subst h40
        (repeat (first | (refine px_st rfl rfl ?_; simp only [px_wp, px_at, px_set, px_set2, px_clr, px_ldi, px_ldl, px_lda, px_i1, px_i2, px_l1, px_l2, px_il, px_a1, px_r1, px_r2, px_ir, px_vir, px_g, px_v1, px_v2, px_gf, px_pf, px_ps, px_ar, px_nth, px_upd, px_zero, px_dfl, px_put_self, px_put_ne, px_sw, nI_add, pk_mul, true_and, and_true, Nat.reduceAdd, Nat.reduceLT, Nat.reduceEqDiff, List.length_cons, List.length_nil, true_or, or_true, List.set_set, ne_eq, not_false_eq_true, Fin.isValue, Fin.val_zero, Fin.val_one, Fin.val_two, reduceCtorEq, Option.map_some, List.length_set, Nat.zero_lt_succ, Option.toList_some, Option.toList_none, List.cons_append, List.nil_append, px_b_2, IA, LA, BA, ZA, QA, PT, DR, TL, MC, CD, CC, false_and, or_false, false_or, nar_b, nar_0, nar_1, nar_y]) | (refine ⟨_, rfl, by omega, ?_⟩) | (refine ⟨fun h => absurd h (nI_nlt (by omega) (by omega)), fun _ => ?_⟩) | (refine ⟨fun _ => ?_, fun h => absurd h (nI_nlt (by omega) (by omega))⟩) | (refine ⟨fun h => absurd (nI_lt (by omega) (by omega)) h, fun _ => ?_⟩) | (refine ⟨fun _ => ?_, fun h => absurd (nI_lt (by omega) (by omega)) h⟩) | (refine ⟨fun h => absurd ((nI_eq (by omega) (by omega)).mp h) (by omega), fun _ => ?_⟩) | (refine ⟨fun _ => ?_, fun h => absurd ((nI_eq (by omega) (by omega)).mp h) (by omega)⟩) | (refine ⟨fun h => absurd h (by decide), fun _ => ?_⟩) | (refine ⟨fun _ => ?_, fun h => absurd h (by decide)⟩) | (refine ⟨fun h => absurd rfl h, fun _ => ?_⟩) | (refine ⟨fun _ => ?_, fun h => absurd rfl h⟩)))
        refine px_cV rfl rfl kX12_takePiece rfl (c_N_takePiece (d := d + 1) (show dp < 11 by omega) (show pl ≤ 128 by omega) hc0 (fun ph2 hf2 hc2 => ?_)) (Nat.le_refl _) k100 rfl rfl rfl (Nat.le_of_ble_eq_true rfl) (Nat.zero_le _) (Nat.zero_le _)
        by_cases hd10 : dp < 10
        · have hs : aT 40 (ah, dp, pl, al, rw, pc, tk, fl, fh) = some (0, dp + 1, pl, va_up al (dp + 1) pNo, va_up rw' (dp + 1) pEm, pc', tk, fl', fh') := by
            rw [hT2]
            unfold aT2
            simp only [if_true]
            rw [if_pos hd10]
          obtain ⟨hL2, hw2⟩ := go _ hs
          obtain ⟨m2, j100, -⟩ := mP_m hc2
          generalize tPF dp ip F = F1 at hc2 g1 g2
          generalize tPl dp pl ip F (F 30).1 mfl = fl1 at hc2 g3
          generalize tPl dp pl ip F (F 30).2.1 mfh = fh1 at hc2 g3
          (repeat (first | (refine px_st rfl rfl ?_; simp only [px_wp, px_at, px_set, px_set2, px_clr, px_ldi, px_ldl, px_lda, px_i1, px_i2, px_l1, px_l2, px_il, px_a1, px_r1, px_r2, px_ir, px_vir, px_g, px_v1, px_v2, px_gf, px_pf, px_ps, px_ar, px_nth, px_upd, px_zero, px_dfl, px_put_self, px_put_ne, px_sw, nI_add, pk_mul, true_and, and_true, Nat.reduceAdd, Nat.reduceLT, Nat.reduceEqDiff, List.length_cons, List.length_nil, true_or, or_true, List.set_set, ne_eq, not_false_eq_true, Fin.isValue, Fin.val_zero, Fin.val_one, Fin.val_two, reduceCtorEq, Option.map_some, List.length_set, Nat.zero_lt_succ, Option.toList_some, Option.toList_none, List.cons_append, List.nil_append, px_b_2, IA, LA, BA, ZA, QA, PT, DR, TL, MC, CD, CC, false_and, or_false, false_or, nar_b, nar_0, nar_1, nar_y]) | (refine ⟨_, rfl, by omega, ?_⟩) | (refine ⟨fun h => absurd h (nI_nlt (by omega) (by omega)), fun _ => ?_⟩) | (refine ⟨fun _ => ?_, fun h => absurd h (nI_nlt (by omega) (by omega))⟩) | (refine ⟨fun h => absurd (nI_lt (by omega) (by omega)) h, fun _ => ?_⟩) | (refine ⟨fun _ => ?_, fun h => absurd (nI_lt (by omega) (by omega)) h⟩) | (refine ⟨fun h => absurd ((nI_eq (by omega) (by omega)).mp h) (by omega), fun _ => ?_⟩) | (refine ⟨fun _ => ?_, fun h => absurd ((nI_eq (by omega) (by omega)).mp h) (by omega)⟩) | (refine ⟨fun h => absurd h (by decide), fun _ => ?_⟩) | (refine ⟨fun _ => ?_, fun h => absurd h (by decide)⟩) | (refine ⟨fun h => absurd rfl h, fun _ => ?_⟩) | (refine ⟨fun _ => ?_, fun h => absurd rfl h⟩)))
          refine px_cV rfl rfl kX12_openLevel rfl (c_N_openLevel (d := d + 2) (show dp + 1 < 11 by omega) hc2 (fun ph3 hf3 hc3 => ?_)) (Nat.le_refl _) j100 rfl rfl rfl (Nat.le_of_ble_eq_true rfl) (Nat.zero_le _) (Nat.zero_le _)
          have hMR5 : MR (0, dp + 1, pl, va_up al (dp + 1) pNo, va_up rw' (dp + 1) pEm, pc', tk, fl', fh') false false ir (va_up F1 (2 * (dp + 1) + 1) pEm) (va_up ha (dp + 1) false) fl1 fh1 := by
            refine MR_no (fun l hl => ?_) (fun l hl => ?_) g3
            · by_cases hld : l = dp + 1
              · subst hld
                rw [va_up_s, va_up_s, if_neg (by simp)]
              · rw [va_up_n hld, va_up_n hld, va_up_n (by omega), g1 l (by omega)]
            · by_cases hld : l = dp + 1
              · subst hld
                rw [va_up_s, va_up_s]
              · rw [va_up_n hld, va_up_n (by omega), g2 l (by omega)]
          have hn := nxt _ false false ir _ _ fl1 fh1 ph3 hL2 hw2 (fr_tr (fr_tr hf' hf2) hf3) hMR5 hc3
          have hn : px_W G mX12_parse (d + 4) 0 0 Q 0 0 336 [some (.ref 100), some (.int (nI (dp + 1))), some (.int (nI 0)), some (.int (nI i)), some (.int (nI 40))] [] ph3 := hn
          (repeat (first | (exact hn) | (refine px_st rfl rfl ?_; simp only [px_wp, px_at, px_set, px_set2, px_clr, px_ldi, px_ldl, px_lda, px_i1, px_i2, px_l1, px_l2, px_il, px_a1, px_r1, px_r2, px_ir, px_vir, px_g, px_v1, px_v2, px_gf, px_pf, px_ps, px_ar, px_nth, px_upd, px_zero, px_dfl, px_put_self, px_put_ne, px_sw, nI_add, pk_mul, true_and, and_true, Nat.reduceAdd, Nat.reduceLT, Nat.reduceEqDiff, List.length_cons, List.length_nil, true_or, or_true, List.set_set, ne_eq, not_false_eq_true, Fin.isValue, Fin.val_zero, Fin.val_one, Fin.val_two, reduceCtorEq, Option.map_some, List.length_set, Nat.zero_lt_succ, Option.toList_some, Option.toList_none, List.cons_append, List.nil_append, px_b_2, IA, LA, BA, ZA, QA, PT, DR, TL, MC, CD, CC, false_and, or_false, false_or, nar_b, nar_0, nar_1, nar_y]) | (refine ⟨_, rfl, by omega, ?_⟩) | (refine ⟨fun h => absurd h (nI_nlt (by omega) (by omega)), fun _ => ?_⟩) | (refine ⟨fun _ => ?_, fun h => absurd h (nI_nlt (by omega) (by omega))⟩) | (refine ⟨fun h => absurd (nI_lt (by omega) (by omega)) h, fun _ => ?_⟩) | (refine ⟨fun _ => ?_, fun h => absurd (nI_lt (by omega) (by omega)) h⟩) | (refine ⟨fun h => absurd ((nI_eq (by omega) (by omega)).mp h) (by omega), fun _ => ?_⟩) | (refine ⟨fun _ => ?_, fun h => absurd ((nI_eq (by omega) (by omega)).mp h) (by omega)⟩) | (refine ⟨fun h => absurd h (by decide), fun _ => ?_⟩) | (refine ⟨fun _ => ?_, fun h => absurd h (by decide)⟩) | (refine ⟨fun h => absurd rfl h, fun _ => ?_⟩) | (refine ⟨fun _ => ?_, fun h => absurd rfl h⟩)))
        · have hdd : dp = 10 := by omega
          have hn : aT 40 (ah, dp, pl, al, rw, pc, tk, fl, fh) = none := by
            rw [hT2]
            unfold aT2
            simp only [if_true]
            rw [if_neg hd10]
          have hq := flt hn ph2 (fr_tr hf' hf2) ⟨_, _, _, _, _, _, _, _, hc2⟩
          subst hdd
          (repeat (first | (refine px_st rfl rfl ?_; simp only [px_wp, px_at, px_set, px_set2, px_clr, px_ldi, px_ldl, px_lda, px_i1, px_i2, px_l1, px_l2, px_il, px_a1, px_r1, px_r2, px_ir, px_vir, px_g, px_v1, px_v2, px_gf, px_pf, px_ps, px_ar, px_nth, px_upd, px_zero, px_dfl, px_put_self, px_put_ne, px_sw, nI_add, pk_mul, true_and, and_true, Nat.reduceAdd, Nat.reduceLT, Nat.reduceEqDiff, List.length_cons, List.length_nil, true_or, or_true, List.set_set, ne_eq, not_false_eq_true, Fin.isValue, Fin.val_zero, Fin.val_one, Fin.val_two, reduceCtorEq, Option.map_some, List.length_set, Nat.zero_lt_succ, Option.toList_some, Option.toList_none, List.cons_append, List.nil_append, px_b_2, IA, LA, BA, ZA, QA, PT, DR, TL, MC, CD, CC, false_and, or_false, false_or, nar_b, nar_0, nar_1, nar_y]) | (refine ⟨_, rfl, by omega, ?_⟩) | (refine ⟨fun h => absurd h (nI_nlt (by omega) (by omega)), fun _ => ?_⟩) | (refine ⟨fun _ => ?_, fun h => absurd h (nI_nlt (by omega) (by omega))⟩) | (refine ⟨fun h => absurd (nI_lt (by omega) (by omega)) h, fun _ => ?_⟩) | (refine ⟨fun _ => ?_, fun h => absurd (nI_lt (by omega) (by omega)) h⟩) | (refine ⟨fun h => absurd ((nI_eq (by omega) (by omega)).mp h) (by omega), fun _ => ?_⟩) | (refine ⟨fun _ => ?_, fun h => absurd ((nI_eq (by omega) (by omega)).mp h) (by omega)⟩) | (refine ⟨fun h => absurd h (by decide), fun _ => ?_⟩) | (refine ⟨fun _ => ?_, fun h => absurd h (by decide)⟩) | (refine ⟨fun h => absurd rfl h, fun _ => ?_⟩) | (refine ⟨fun _ => ?_, fun h => absurd rfl h⟩)))
          exact px_ireturn rfl (Or.inl rfl) (Nat.le_refl _) (Nat.le_refl _) hq
      by_cases h41 : o = 41 ∧ 0 < dp
      · obtain ⟨h41, hdp⟩ := h41
        have hs : aT o (ah, dp, pl, al, rw, pc, tk, fl, fh) = some (2, dp - 1, pl, va_up al dp (pJn (al dp) (rw' dp)), rw', pJn pNo (pJn (al dp) (rw' dp)), tk, fl', fh') := by
          rw [hT2, h41]
          unfold aT2
          simp only [show ¬ (41 : Nat) = 40 by decide, if_false, if_true]
          rw [if_neg (by omega)]
        obtain ⟨hL2, hw2⟩ := go _ hs
        subst h41
        (repeat (first | (refine px_st rfl rfl ?_; simp only [px_wp, px_at, px_set, px_set2, px_clr, px_ldi, px_ldl, px_lda, px_i1, px_i2, px_l1, px_l2, px_il, px_a1, px_r1, px_r2, px_ir, px_vir, px_g, px_v1, px_v2, px_gf, px_pf, px_ps, px_ar, px_nth, px_upd, px_zero, px_dfl, px_put_self, px_put_ne, px_sw, nI_add, pk_mul, true_and, and_true, Nat.reduceAdd, Nat.reduceLT, Nat.reduceEqDiff, List.length_cons, List.length_nil, true_or, or_true, List.set_set, ne_eq, not_false_eq_true, Fin.isValue, Fin.val_zero, Fin.val_one, Fin.val_two, reduceCtorEq, Option.map_some, List.length_set, Nat.zero_lt_succ, Option.toList_some, Option.toList_none, List.cons_append, List.nil_append, px_b_2, IA, LA, BA, ZA, QA, PT, DR, TL, MC, CD, CC, false_and, or_false, false_or, nar_b, nar_0, nar_1, nar_y]) | (refine ⟨_, rfl, by omega, ?_⟩) | (refine ⟨fun h => absurd h (nI_nlt (by omega) (by omega)), fun _ => ?_⟩) | (refine ⟨fun _ => ?_, fun h => absurd h (nI_nlt (by omega) (by omega))⟩) | (refine ⟨fun h => absurd (nI_lt (by omega) (by omega)) h, fun _ => ?_⟩) | (refine ⟨fun _ => ?_, fun h => absurd (nI_lt (by omega) (by omega)) h⟩) | (refine ⟨fun h => absurd ((nI_eq (by omega) (by omega)).mp h) (by omega), fun _ => ?_⟩) | (refine ⟨fun _ => ?_, fun h => absurd ((nI_eq (by omega) (by omega)).mp h) (by omega)⟩) | (refine ⟨fun h => absurd h (by decide), fun _ => ?_⟩) | (refine ⟨fun _ => ?_, fun h => absurd h (by decide)⟩) | (refine ⟨fun h => absurd rfl h, fun _ => ?_⟩) | (refine ⟨fun _ => ?_, fun h => absurd rfl h⟩)))
        refine px_cV rfl rfl kX12_takeSequence rfl (c_N_takeSequence (d := d) (show dp < 11 by omega) (show pl ≤ 128 by omega) hc0 (fun ph2 hf2 hc2 => ?_)) (Nat.le_refl _) k100 rfl rfl rfl (Nat.le_of_ble_eq_true rfl) (Nat.zero_le _) (Nat.zero_le _)
        obtain ⟨m2, j100, -⟩ := mP_m hc2
        generalize tPF dp ip F = F1 at hc2 g1 g2
        generalize tPl dp pl ip F (F 30).1 mfl = fl1 at hc2 g3
        generalize tPl dp pl ip F (F 30).2.1 mfh = fh1 at hc2 g3
        (repeat (first | (refine px_st rfl rfl ?_; simp only [px_wp, px_at, px_set, px_set2, px_clr, px_ldi, px_ldl, px_lda, px_i1, px_i2, px_l1, px_l2, px_il, px_a1, px_r1, px_r2, px_ir, px_vir, px_g, px_v1, px_v2, px_gf, px_pf, px_ps, px_ar, px_nth, px_upd, px_zero, px_dfl, px_put_self, px_put_ne, px_sw, nI_add, pk_mul, true_and, and_true, Nat.reduceAdd, Nat.reduceLT, Nat.reduceEqDiff, List.length_cons, List.length_nil, true_or, or_true, List.set_set, ne_eq, not_false_eq_true, Fin.isValue, Fin.val_zero, Fin.val_one, Fin.val_two, reduceCtorEq, Option.map_some, List.length_set, Nat.zero_lt_succ, Option.toList_some, Option.toList_none, List.cons_append, List.nil_append, px_b_2, IA, LA, BA, ZA, QA, PT, DR, TL, MC, CD, CC, false_and, or_false, false_or, nar_b, nar_0, nar_1, nar_y]) | (refine ⟨_, rfl, by omega, ?_⟩) | (refine ⟨fun h => absurd h (nI_nlt (by omega) (by omega)), fun _ => ?_⟩) | (refine ⟨fun _ => ?_, fun h => absurd h (nI_nlt (by omega) (by omega))⟩) | (refine ⟨fun h => absurd (nI_lt (by omega) (by omega)) h, fun _ => ?_⟩) | (refine ⟨fun _ => ?_, fun h => absurd (nI_lt (by omega) (by omega)) h⟩) | (refine ⟨fun h => absurd ((nI_eq (by omega) (by omega)).mp h) (by omega), fun _ => ?_⟩) | (refine ⟨fun _ => ?_, fun h => absurd ((nI_eq (by omega) (by omega)).mp h) (by omega)⟩) | (refine ⟨fun h => absurd h (by decide), fun _ => ?_⟩) | (refine ⟨fun _ => ?_, fun h => absurd h (by decide)⟩) | (refine ⟨fun h => absurd rfl h, fun _ => ?_⟩) | (refine ⟨fun _ => ?_, fun h => absurd rfl h⟩)))
        refine px_cV rfl rfl kX12_copy rfl (c_N_copy (d := d + 3) (show 2 * dp < 40 by omega) (show 30 < 40 by omega) hc2 (fun ph3 hf3 hc3 => ?_)) (Nat.le_refl _) j100 rfl rfl rfl (Nat.le_of_ble_eq_true rfl) (Nat.zero_le _) (Nat.zero_le _)
        obtain ⟨m3, i100, h23⟩ := mP_2 hc3
        have hc5 := h23 true false
        have hMR5 : MR (2, dp - 1, pl, va_up al dp (pJn (al dp) (rw' dp)), rw', pJn pNo (pJn (al dp) (rw' dp)), tk, fl', fh') false true false (va_up (sqF dp (ha dp) F1) 30 (sqF dp (ha dp) F1 (2 * dp))) (va_up ha dp true) fl1 fh1 := by
          refine MR_pc (im := false) (fun l hl => ?_) (fun l hl => ?_) ?_ g3
          · rw [va_up_n (by omega), va_up_n (by omega), va_up_n (by omega), g1 l (by omega)]
            unfold sqF
            rw [va_up_n (by omega), va_up_n (by omega)]
          · rw [va_up_n (by omega), g2 l (by omega)]
            unfold sqF
            rw [va_up_n (by omega), va_up_n (by omega)]
          · rw [pJn_no, va_up_s]
            exact sq_al g1 g2
        have hm1 : nI dp + (-1) = nI (dp - 1) := by
          obtain ⟨q, rfl⟩ : ∃ q, dp = q + 1 := ⟨dp - 1, by omega⟩
          exact pk_m1 q
        have hn := nxt _ false true false _ _ fl1 fh1 _ hL2 hw2 (fp_set (fr_tr (fr_tr hf' hf2) hf3) rfl) hMR5 hc5
        have hn : px_W G mX12_parse (d + 4) 0 0 Q 0 0 336 [some (.ref 100), some (.int (nI (dp - 1))), some (.int (nI 0)), some (.int (nI i)), some (.int (nI 41))] [] (ph3.set 100 (MD (upd (upd m3 2 (nI 1)) 3 (nI 0)))) := hn
        (repeat (first | (exact hn) | (refine px_st rfl rfl ?_; simp only [px_wp, px_at, px_set, px_set2, px_clr, px_ldi, px_ldl, px_lda, px_i1, px_i2, px_l1, px_l2, px_il, px_a1, px_r1, px_r2, px_ir, px_vir, px_g, px_v1, px_v2, px_gf, px_pf, px_ps, px_ar, px_nth, px_upd, px_zero, px_dfl, px_put_self, px_put_ne, px_sw, nI_add, pk_mul, true_and, and_true, Nat.reduceAdd, Nat.reduceLT, Nat.reduceEqDiff, List.length_cons, List.length_nil, true_or, or_true, List.set_set, ne_eq, not_false_eq_true, Fin.isValue, Fin.val_zero, Fin.val_one, Fin.val_two, reduceCtorEq, Option.map_some, List.length_set, Nat.zero_lt_succ, Option.toList_some, Option.toList_none, List.cons_append, List.nil_append, px_b_2, IA, LA, BA, ZA, QA, PT, DR, TL, MC, CD, CC, false_and, or_false, false_or, nar_b, nar_0, nar_1, nar_y, i100, p_isPiece, p_isRepeated, md_len, hm1]) | (refine ⟨_, rfl, by omega, ?_⟩) | (refine ⟨fun h => absurd h (nI_nlt (by omega) (by omega)), fun _ => ?_⟩) | (refine ⟨fun _ => ?_, fun h => absurd h (nI_nlt (by omega) (by omega))⟩) | (refine ⟨fun h => absurd (nI_lt (by omega) (by omega)) h, fun _ => ?_⟩) | (refine ⟨fun _ => ?_, fun h => absurd (nI_lt (by omega) (by omega)) h⟩) | (refine ⟨fun h => absurd ((nI_eq (by omega) (by omega)).mp h) (by omega), fun _ => ?_⟩) | (refine ⟨fun _ => ?_, fun h => absurd ((nI_eq (by omega) (by omega)).mp h) (by omega)⟩) | (refine ⟨fun h => absurd h (by decide), fun _ => ?_⟩) | (refine ⟨fun _ => ?_, fun h => absurd h (by decide)⟩) | (refine ⟨fun h => absurd rfl h, fun _ => ?_⟩) | (refine ⟨fun _ => ?_, fun h => absurd rfl h⟩)))
      · have hn : aT o (ah, dp, pl, al, rw, pc, tk, fl, fh) = none := by
          rw [hT2]
          unfold aT2
          simp only
          rw [if_neg h40]
          by_cases h41' : o = 41
          · rw [if_pos h41', if_pos (by omega)]
          · rw [if_neg h41', if_neg h124, if_neg h46, if_neg (by omega)]
        have hq := flt hn ph' hf' ⟨_, _, _, _, _, _, _, _, hc'⟩
        by_cases h41' : o = 41
        · have hd0 : dp = 0 := by omega
          subst h41'
          subst hd0
          (repeat (first | (refine px_st rfl rfl ?_; simp only [px_wp, px_at, px_set, px_set2, px_clr, px_ldi, px_ldl, px_lda, px_i1, px_i2, px_l1, px_l2, px_il, px_a1, px_r1, px_r2, px_ir, px_vir, px_g, px_v1, px_v2, px_gf, px_pf, px_ps, px_ar, px_nth, px_upd, px_zero, px_dfl, px_put_self, px_put_ne, px_sw, nI_add, pk_mul, true_and, and_true, Nat.reduceAdd, Nat.reduceLT, Nat.reduceEqDiff, List.length_cons, List.length_nil, true_or, or_true, List.set_set, ne_eq, not_false_eq_true, Fin.isValue, Fin.val_zero, Fin.val_one, Fin.val_two, reduceCtorEq, Option.map_some, List.length_set, Nat.zero_lt_succ, Option.toList_some, Option.toList_none, List.cons_append, List.nil_append, px_b_2, IA, LA, BA, ZA, QA, PT, DR, TL, MC, CD, CC, false_and, or_false, false_or, nar_b, nar_0, nar_1, nar_y]) | (refine ⟨_, rfl, by omega, ?_⟩) | (refine ⟨fun h => absurd h (nI_nlt (by omega) (by omega)), fun _ => ?_⟩) | (refine ⟨fun _ => ?_, fun h => absurd h (nI_nlt (by omega) (by omega))⟩) | (refine ⟨fun h => absurd (nI_lt (by omega) (by omega)) h, fun _ => ?_⟩) | (refine ⟨fun _ => ?_, fun h => absurd (nI_lt (by omega) (by omega)) h⟩) | (refine ⟨fun h => absurd ((nI_eq (by omega) (by omega)).mp h) (by omega), fun _ => ?_⟩) | (refine ⟨fun _ => ?_, fun h => absurd ((nI_eq (by omega) (by omega)).mp h) (by omega)⟩) | (refine ⟨fun h => absurd h (by decide), fun _ => ?_⟩) | (refine ⟨fun _ => ?_, fun h => absurd h (by decide)⟩) | (refine ⟨fun h => absurd rfl h, fun _ => ?_⟩) | (refine ⟨fun _ => ?_, fun h => absurd rfl h⟩)))
          exact px_ireturn rfl (Or.inl rfl) (Nat.le_refl _) (Nat.le_refl _) hq
        · (repeat (first | (refine px_st rfl rfl ?_; simp only [px_wp, px_at, px_set, px_set2, px_clr, px_ldi, px_ldl, px_lda, px_i1, px_i2, px_l1, px_l2, px_il, px_a1, px_r1, px_r2, px_ir, px_vir, px_g, px_v1, px_v2, px_gf, px_pf, px_ps, px_ar, px_nth, px_upd, px_zero, px_dfl, px_put_self, px_put_ne, px_sw, nI_add, pk_mul, true_and, and_true, Nat.reduceAdd, Nat.reduceLT, Nat.reduceEqDiff, List.length_cons, List.length_nil, true_or, or_true, List.set_set, ne_eq, not_false_eq_true, Fin.isValue, Fin.val_zero, Fin.val_one, Fin.val_two, reduceCtorEq, Option.map_some, List.length_set, Nat.zero_lt_succ, Option.toList_some, Option.toList_none, List.cons_append, List.nil_append, px_b_2, IA, LA, BA, ZA, QA, PT, DR, TL, MC, CD, CC, false_and, or_false, false_or, nar_b, nar_0, nar_1, nar_y]) | (refine ⟨_, rfl, by omega, ?_⟩) | (refine ⟨fun h => absurd h (nI_nlt (by omega) (by omega)), fun _ => ?_⟩) | (refine ⟨fun _ => ?_, fun h => absurd h (nI_nlt (by omega) (by omega))⟩) | (refine ⟨fun h => absurd (nI_lt (by omega) (by omega)) h, fun _ => ?_⟩) | (refine ⟨fun _ => ?_, fun h => absurd (nI_lt (by omega) (by omega)) h⟩) | (refine ⟨fun h => absurd ((nI_eq (by omega) (by omega)).mp h) (by omega), fun _ => ?_⟩) | (refine ⟨fun _ => ?_, fun h => absurd ((nI_eq (by omega) (by omega)).mp h) (by omega)⟩) | (refine ⟨fun h => absurd h (by decide), fun _ => ?_⟩) | (refine ⟨fun _ => ?_, fun h => absurd h (by decide)⟩) | (refine ⟨fun h => absurd rfl h, fun _ => ?_⟩) | (refine ⟨fun _ => ?_, fun h => absurd rfl h⟩)))
          exact px_ireturn rfl (Or.inl rfl) (Nat.le_refl _) (Nat.le_refl _) hq
  -- the start
  obtain ⟨⟨tk', h102⟩, ⟨mfl0, h103⟩, ⟨mfh0, h104⟩, ⟨em, h105, hem⟩, ⟨f1, h106⟩, ⟨f2, h107⟩, ⟨f3, h108⟩, ⟨f4, h109⟩, ⟨ha', h110, hha⟩, -⟩ := hN
  obtain ⟨F0, hF0⟩ : ∃ F0 : Nat → PTt, F0 = fun i => (f1 i, f2 i, f3 i, f4 i, decide (em i = nI 1)) := ⟨_, rfl⟩
  obtain ⟨ha0, hha0⟩ : ∃ ha0 : Nat → Bool, ha0 = fun i => decide (ha' i = nI 1) := ⟨_, rfl⟩
  have b01 : ∀ v : Int32, (v = nI 0 ∨ v = nI 1) → v = px_b (decide (v = nI 1)) := fun v hv => by
    rcases hv with rfl | rfl
    · rfl
    · rfl
  have hcS : mP m0 F0 ha0 0 false false tk0 mfl0 mfh0 (ph.set 100 (MD (upd (upd (upd m0 1 (nI 0)) 2 (nI 0)) 3 (nI 0)))) := by
    refine ⟨upd (upd (upd m0 1 (nI 0)) 2 (nI 0)) 3 (nI 0), em, ha', tk', f1, f2, f3, f4, ⟨?_, (up_ne (by decide)).trans ((up_ne (by decide)).trans pk_us), (up_ne (by decide)).trans pk_us, pk_us, fun j a b c => (up_ne c).trans ((up_ne b).trans (up_ne a))⟩, ⟨?_, ?_, ?_, ?_, ?_⟩, ⟨?_, ?_, ?_, ?_⟩, fun i hi => ?_, fun i hi => ?_, fun j hj => absurd hj (by omega)⟩
    rotate_right 2
    · rw [hF0]
      exact ⟨b01 _ (hem i hi), rfl, rfl, rfl, rfl⟩
    · rw [hha0]
      exact b01 _ (hha i hi)
    all_goals simp only [px_put_self, px_put_ne, h100, h102, h103, h104, h105, h106, h107, h108, h109, h110, Nat.reduceEqDiff, not_false_eq_true, Option.map_some]
  have kS : (ph.set 100 (MD (upd (upd (upd m0 1 (nI 0)) 2 (nI 0)) 3 (nI 0))))[100]? = some (MD (upd (upd (upd m0 1 (nI 0)) 2 (nI 0)) 3 (nI 0))) := px_put_self.trans (by rw [h100]; rfl)
  (repeat (first | (refine px_st rfl rfl ?_; simp only [px_wp, px_at, px_set, px_set2, px_clr, px_ldi, px_ldl, px_lda, px_i1, px_i2, px_l1, px_l2, px_il, px_a1, px_r1, px_r2, px_ir, px_vir, px_g, px_v1, px_v2, px_gf, px_pf, px_ps, px_ar, px_nth, px_upd, px_zero, px_dfl, px_put_self, px_put_ne, px_sw, nI_add, pk_mul, true_and, and_true, Nat.reduceAdd, Nat.reduceLT, Nat.reduceEqDiff, List.length_cons, List.length_nil, true_or, or_true, List.set_set, ne_eq, not_false_eq_true, Fin.isValue, Fin.val_zero, Fin.val_one, Fin.val_two, reduceCtorEq, Option.map_some, List.length_set, Nat.zero_lt_succ, Option.toList_some, Option.toList_none, List.cons_append, List.nil_append, px_b_2, IA, LA, BA, ZA, QA, PT, DR, TL, MC, CD, CC, false_and, or_false, false_or, nar_b, nar_0, nar_1, nar_y, h100, p_places, p_isPiece, p_isRepeated, md_len]) | (refine ⟨_, rfl, by omega, ?_⟩) | (refine ⟨fun h => absurd h (nI_nlt (by omega) (by omega)), fun _ => ?_⟩) | (refine ⟨fun _ => ?_, fun h => absurd h (nI_nlt (by omega) (by omega))⟩) | (refine ⟨fun h => absurd (nI_lt (by omega) (by omega)) h, fun _ => ?_⟩) | (refine ⟨fun _ => ?_, fun h => absurd (nI_lt (by omega) (by omega)) h⟩) | (refine ⟨fun h => absurd ((nI_eq (by omega) (by omega)).mp h) (by omega), fun _ => ?_⟩) | (refine ⟨fun _ => ?_, fun h => absurd ((nI_eq (by omega) (by omega)).mp h) (by omega)⟩) | (refine ⟨fun h => absurd h (by decide), fun _ => ?_⟩) | (refine ⟨fun _ => ?_, fun h => absurd h (by decide)⟩) | (refine ⟨fun h => absurd rfl h, fun _ => ?_⟩) | (refine ⟨fun _ => ?_, fun h => absurd rfl h⟩)))
  refine px_cV rfl rfl kX12_openLevel rfl (c_N_openLevel (d := d + 2) (l := 0) (by omega) hcS (fun ph1 hf1 hc1 => ?_)) (Nat.le_refl _) kS rfl rfl rfl (Nat.le_of_ble_eq_true rfl) (Nat.zero_le _) (Nat.zero_le _)
  have hMR0 : MR (st0 al0 rw0 pc0 tk0 fl0 fh0) false false false (va_up F0 (2 * 0 + 1) pEm) (va_up ha0 0 false) mfl0 mfh0 := by
    refine MR_no (fun l hl => ?_) (fun l hl => ?_) (fun j hj => absurd hj (by omega))
    · have : l = 0 := by omega
      subst this
      rw [va_up_s, va_up_s, if_neg (by simp)]
    · have : l = 0 := by omega
      subst this
      rw [va_up_s, va_up_s]
  have hl := loop len 0 (st0 al0 rw0 pc0 tk0 fl0 fh0) false false false _ _ mfl0 mfh0 none ph1 (by omega) hT ⟨by omega, by omega, by omega, fun i hi => absurd hi (by omega), fun q => by cases q⟩ (fr_tr (fp_set fr_id rfl) hf1) hMR0 hc1
  have hl : px_W G mX12_parse (d + 4) 0 0 Q 0 0 26 [some (.ref 100), some (.int (nI 0)), some (.int (nI 0)), some (.int (nI 0)), none] [] ph1 := hl
  (repeat (first | (exact hl) | (refine px_st rfl rfl ?_; simp only [px_wp, px_at, px_set, px_set2, px_clr, px_ldi, px_ldl, px_lda, px_i1, px_i2, px_l1, px_l2, px_il, px_a1, px_r1, px_r2, px_ir, px_vir, px_g, px_v1, px_v2, px_gf, px_pf, px_ps, px_ar, px_nth, px_upd, px_zero, px_dfl, px_put_self, px_put_ne, px_sw, nI_add, pk_mul, true_and, and_true, Nat.reduceAdd, Nat.reduceLT, Nat.reduceEqDiff, List.length_cons, List.length_nil, true_or, or_true, List.set_set, ne_eq, not_false_eq_true, Fin.isValue, Fin.val_zero, Fin.val_one, Fin.val_two, reduceCtorEq, Option.map_some, List.length_set, Nat.zero_lt_succ, Option.toList_some, Option.toList_none, List.cons_append, List.nil_append, px_b_2, IA, LA, BA, ZA, QA, PT, DR, TL, MC, CD, CC, false_and, or_false, false_or, nar_b, nar_0, nar_1, nar_y]) | (refine ⟨_, rfl, by omega, ?_⟩) | (refine ⟨fun h => absurd h (nI_nlt (by omega) (by omega)), fun _ => ?_⟩) | (refine ⟨fun _ => ?_, fun h => absurd h (nI_nlt (by omega) (by omega))⟩) | (refine ⟨fun h => absurd (nI_lt (by omega) (by omega)) h, fun _ => ?_⟩) | (refine ⟨fun _ => ?_, fun h => absurd (nI_lt (by omega) (by omega)) h⟩) | (refine ⟨fun h => absurd ((nI_eq (by omega) (by omega)).mp h) (by omega), fun _ => ?_⟩) | (refine ⟨fun _ => ?_, fun h => absurd ((nI_eq (by omega) (by omega)).mp h) (by omega)⟩) | (refine ⟨fun h => absurd h (by decide), fun _ => ?_⟩) | (refine ⟨fun _ => ?_, fun h => absurd h (by decide)⟩) | (refine ⟨fun h => absurd rfl h, fun _ => ?_⟩) | (refine ⟨fun _ => ?_, fun h => absurd rfl h⟩)))
end MPT
