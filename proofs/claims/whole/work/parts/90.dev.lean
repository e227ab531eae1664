theorem FM_lt {k : Nat} {e : px_E} (h : ¬ (k = 100 ∨ k = 136 ∨ k = 138 ∨ k = 139)) : FM k e := decide_eq_false h
theorem FM_7 : ∀ k e, grp k = 7 → FM k e := fun k e h => FM_lt (fun q => by
  rcases q with rfl | rfl | rfl | rfl <;> cases h)
section ACU
variable {G : px_G} {ph : List px_E} {d : Nat} {Q : Option Value → List px_E → Prop} {m0 m : Nat → Int32} {n k me kind mi sn cn : Nat} {st : NS} {z : Bool} {nx : Nat → Nat → Option Nat} {en : Nat → Bool} {f A B C : Nat → Int32}
set_option maxRecDepth 100000 in
set_option maxHeartbeats 4000000 in
theorem c_N_act (hX : nX ph m0 m st) (hk : k < st.1) (hkn : st.2.1 k = n) (ho : okS sn z n) (hM : nM ph mi sn nx en) (hC : mCd ph me cn f A B C) (hop : ∀ j, j < cn → opOk (f j) (A j) (B j) (C j) = true) (hkd : kind < 4) (hQ : ∀ L m' ph', fr FM ph ph' → (∀ x, x ∈ L ↔ x ∈ (xS nx en z kind cn f A B C n).1) → nX ph' m0 m' (ntL st k L) → Q (some (.int (px_b (xS nx en z kind cn f A B C n).2))) ph') : px_Met G mX12_act (d + 2) 0 0 [.ref 100, .int (nI k), .int (nI me), .int (nI kind), .int (nI mi), .int (px_b z)] ph Q := by
  have hX0 := hX
  obtain ⟨h100, -, ⟨hc, -⟩, F, Cf, s, sl, k136, -, -, v1, -⟩ := hX
  have hF := (v1 k hk).1
  rw [hkn] at hF
  have hp32 := ho.2.1
  unfold xS at hQ
  refine px_start kX12_act (Nat.le_of_ble_eq_true rfl) ?_
  show px_W G _ _ _ _ _ 0 0 0 [some (.ref 100), some (.int (nI k)), some (.int (nI me)), some (.int (nI kind)), some (.int (nI mi)), some (.int (px_b z)), none, none, none, none, none, none, none, none] [] ph
  (repeat (first | (refine px_st rfl rfl ?_; simp only [px_wp, px_at, px_set, px_set2, px_clr, px_ldi, px_ldl, px_lda, px_i1, px_i2, px_l1, px_l2, px_il, px_a1, px_r1, px_r2, px_ir, px_vir, px_g, px_v1, px_v2, px_gf, px_pf, px_ps, px_ar, px_nth, px_upd, px_zero, px_dfl, px_put_self, px_put_ne, px_sw, nI_add, pk_mul, true_and, and_true, Nat.reduceAdd, Nat.reduceLT, Nat.reduceEqDiff, List.length_cons, List.length_nil, true_or, or_true, List.set_set, ne_eq, not_false_eq_true, Fin.isValue, Fin.val_zero, Fin.val_one, Fin.val_two, reduceCtorEq, Option.map_some, List.length_set, Nat.zero_lt_succ, Option.toList_some, Option.toList_none, List.cons_append, List.nil_append, px_b_2, IA, LA, BA, ZA, QA, PT, DR, TL, MC, CD, CC, false_and, or_false, false_or, nar_b, nar_0, nar_1, nar_y, h100, g_shape, k136]) | (refine ⟨_, rfl, by omega, ?_⟩) | (refine ⟨fun h => absurd h (nI_nlt (by omega) (by omega)), fun _ => ?_⟩) | (refine ⟨fun _ => ?_, fun h => absurd h (nI_nlt (by omega) (by omega))⟩) | (refine ⟨fun h => absurd (nI_lt (by omega) (by omega)) h, fun _ => ?_⟩) | (refine ⟨fun _ => ?_, fun h => absurd (nI_lt (by omega) (by omega)) h⟩) | (refine ⟨fun h => absurd ((nI_eq (by omega) (by omega)).mp h) (by omega), fun _ => ?_⟩) | (refine ⟨fun _ => ?_, fun h => absurd ((nI_eq (by omega) (by omega)).mp h) (by omega)⟩) | (refine ⟨fun h => absurd h (by decide), fun _ => ?_⟩) | (refine ⟨fun _ => ?_, fun h => absurd h (by decide)⟩) | (refine ⟨fun h => absurd rfl h, fun _ => ?_⟩) | (refine ⟨fun _ => ?_, fun h => absurd rfl h⟩)))
  rw [hF]
  refine px_cV rfl rfl kX12_load rfl (c_N_load (d := d + 1) h100 ho.1 (fun m1 hY1 h11 hm1 => ?_)) (Nat.le_refl _) h100 rfl rfl rfl (Nat.le_of_ble_eq_true rfl) (Nat.zero_le _) (Nat.zero_le _)
  have hX1 := nX_m hX0 (fun i hi => hm1 i hi)
  have hf1 : fr FM ph (ph.set 100 (MD m1)) := fm_set fr_id rfl
  have hM1 := hM.fr hf1 (fun e => ⟨FM_lt (by decide), FM_lt (by decide)⟩)
  have hC1 := hC.fr hf1 FM_7
  generalize ph.set 100 (MD m1) = ph1 at hX1 hf1 hM1 hC1 ⊢
  obtain ⟨c1, c2, F0, F1, F2, F3, F4, ⟨h131, h132, h133, h134, h135⟩, c7, c8⟩ := hC1
  have g100 := hX1.M
  rcases Nat.lt_or_ge (dg n 22 9) cn with hpc | hpc
  rotate_left
  · rw [if_neg (show ¬ sPl n < cn by show ¬ dg n 22 9 < cn; omega)] at hQ
    have hr := c_N_a11 (G := G) (d := d) (Q := Q) (me := me) (kind := kind) (a := nI 0) (b := nI 0) (c := nI 0) (aa := nI (32 * me + dg n 22 9)) ho hX1 hk hkn hY1 h11 hM1 hkd (by decide) (fun L m' ph' hf' hL hX' => hQ L m' ph' (fr_tr hf1 hf') hL hX')
    (repeat (first | (exact hr) | (refine px_st rfl rfl ?_; simp only [px_wp, px_at, px_set, px_set2, px_clr, px_ldi, px_ldl, px_lda, px_i1, px_i2, px_l1, px_l2, px_il, px_a1, px_r1, px_r2, px_ir, px_vir, px_g, px_v1, px_v2, px_gf, px_pf, px_ps, px_ar, px_nth, px_upd, px_zero, px_dfl, px_put_self, px_put_ne, px_sw, nI_add, pk_mul, true_and, and_true, Nat.reduceAdd, Nat.reduceLT, Nat.reduceEqDiff, List.length_cons, List.length_nil, true_or, or_true, List.set_set, ne_eq, not_false_eq_true, Fin.isValue, Fin.val_zero, Fin.val_one, Fin.val_two, reduceCtorEq, Option.map_some, List.length_set, Nat.zero_lt_succ, Option.toList_some, Option.toList_none, List.cons_append, List.nil_append, px_b_2, IA, LA, BA, ZA, QA, PT, DR, TL, MC, CD, CC, false_and, or_false, false_or, nar_b, nar_0, nar_1, nar_y, g100, g_place, h11, g_ops, h131, c7]) | (refine ⟨_, rfl, by omega, ?_⟩) | (refine ⟨fun h => absurd h (nI_nlt (by omega) (by omega)), fun _ => ?_⟩) | (refine ⟨fun _ => ?_, fun h => absurd h (nI_nlt (by omega) (by omega))⟩) | (refine ⟨fun h => absurd (nI_lt (by omega) (by omega)) h, fun _ => ?_⟩) | (refine ⟨fun _ => ?_, fun h => absurd (nI_lt (by omega) (by omega)) h⟩) | (refine ⟨fun h => absurd ((nI_eq (by omega) (by omega)).mp h) (by omega), fun _ => ?_⟩) | (refine ⟨fun _ => ?_, fun h => absurd ((nI_eq (by omega) (by omega)).mp h) (by omega)⟩) | (refine ⟨fun h => absurd h (by decide), fun _ => ?_⟩) | (refine ⟨fun _ => ?_, fun h => absurd h (by decide)⟩) | (refine ⟨fun h => absurd rfl h, fun _ => ?_⟩) | (refine ⟨fun _ => ?_, fun h => absurd rfl h⟩)))
  · rw [if_pos (show sPl n < cn from hpc)] at hQ
    have hop := hop _ hpc
    obtain ⟨q1, q2, q3, q4⟩ := c8 _ hpc
    have hQ : ∀ L m' ph', fr FM ph ph' → (∀ x, x ∈ L ↔ x ∈ (xOp nx en z kind (f (dg n 22 9)).toNatClampNeg (A (dg n 22 9)).toNatClampNeg (B (dg n 22 9)).toNatClampNeg (C (dg n 22 9)).toNatClampNeg n).1) → nX ph' m0 m' (ntL st k L) → Q (some (.int (px_b (xOp nx en z kind (f (dg n 22 9)).toNatClampNeg (A (dg n 22 9)).toNatClampNeg (B (dg n 22 9)).toNatClampNeg (C (dg n 22 9)).toNatClampNeg n).2))) ph' := hQ
    generalize f (dg n 22 9) = O at hop hQ q1
    generalize A (dg n 22 9) = a at hop hQ q2
    generalize B (dg n 22 9) = b at hop hQ q3
    generalize C (dg n 22 9) = c at hop hQ q4
    have hO : b_below O 12 = true := by
      unfold opOk at hop
      rw [Bool.and_eq_true] at hop
      exact hop.1
    obtain ⟨j, hj, rfl⟩ := b_below_e (by omega) hO
    rw [nI_cl (by omega)] at hQ
    have hr : px_W G mX12_act (d + 2) 0 0 Q 0 0 134 [some (.ref 100), some (.int (nI k)), some (.int (nI me)), some (.int (nI kind)), some (.int (nI mi)), some (.int (px_b z)), some (.int (nI (32 * me + dg n 22 9))), some (.int (nI j)), some (.int a), some (.int b), some (.int c), some (.int (nI (dg n 22 9 + 1))), none, none] [] ph1 := by
      have hj' : j = 0 ∨ j = 1 ∨ j = 2 ∨ j = 3 ∨ j = 4 ∨ j = 5 ∨ j = 6 ∨ j = 7 ∨ j = 8 ∨ j = 9 ∨ j = 10 ∨ j = 11 := by omega
      rcases hj' with rfl | rfl | rfl | rfl | rfl | rfl | rfl | rfl | rfl | rfl | rfl | rfl
      · exact c_N_a0 (d := d) ho hX1 hk hkn hY1 h11 hM1 hkd hop (fun L m' ph' hf' hL hX' => hQ L m' ph' (fr_tr hf1 hf') hL hX')
      · exact c_N_a1 (d := d) ho hX1 hk hkn hY1 h11 hM1 hkd hop (fun L m' ph' hf' hL hX' => hQ L m' ph' (fr_tr hf1 hf') hL hX')
      · exact c_N_a2 (d := d) ho hX1 hk hkn hY1 h11 hM1 hkd hop (fun L m' ph' hf' hL hX' => hQ L m' ph' (fr_tr hf1 hf') hL hX')
      · exact c_N_a3 (d := d) ho hX1 hk hkn hY1 h11 hM1 hkd hop (fun L m' ph' hf' hL hX' => hQ L m' ph' (fr_tr hf1 hf') hL hX')
      · exact c_N_a4 (d := d) ho hX1 hk hkn hY1 h11 hM1 hkd hop (fun L m' ph' hf' hL hX' => hQ L m' ph' (fr_tr hf1 hf') hL hX')
      · exact c_N_a5 (d := d) ho hX1 hk hkn hY1 h11 hM1 hkd hop (fun L m' ph' hf' hL hX' => hQ L m' ph' (fr_tr hf1 hf') hL hX')
      · exact c_N_a6 (d := d) ho hX1 hk hkn hY1 h11 hM1 hkd hop (fun L m' ph' hf' hL hX' => hQ L m' ph' (fr_tr hf1 hf') hL hX')
      · exact c_N_a7 (d := d) ho hX1 hk hkn hY1 h11 hM1 hkd hop (fun L m' ph' hf' hL hX' => hQ L m' ph' (fr_tr hf1 hf') hL hX')
      · exact c_N_a8 (d := d) ho hX1 hk hkn hY1 h11 hM1 hkd hop (fun L m' ph' hf' hL hX' => hQ L m' ph' (fr_tr hf1 hf') hL hX')
      · exact c_N_a9 (d := d) ho hX1 hk hkn hY1 h11 hM1 hkd hop (fun L m' ph' hf' hL hX' => hQ L m' ph' (fr_tr hf1 hf') hL hX')
      · exact c_N_a10 (d := d) ho hX1 hk hkn hY1 h11 hM1 hkd hop (fun L m' ph' hf' hL hX' => hQ L m' ph' (fr_tr hf1 hf') hL hX')
      · exact c_N_a11 (d := d) ho hX1 hk hkn hY1 h11 hM1 hkd hop (fun L m' ph' hf' hL hX' => hQ L m' ph' (fr_tr hf1 hf') hL hX')
    (repeat (first | (exact hr) | (refine px_st rfl rfl ?_; simp only [px_wp, px_at, px_set, px_set2, px_clr, px_ldi, px_ldl, px_lda, px_i1, px_i2, px_l1, px_l2, px_il, px_a1, px_r1, px_r2, px_ir, px_vir, px_g, px_v1, px_v2, px_gf, px_pf, px_ps, px_ar, px_nth, px_upd, px_zero, px_dfl, px_put_self, px_put_ne, px_sw, nI_add, pk_mul, true_and, and_true, Nat.reduceAdd, Nat.reduceLT, Nat.reduceEqDiff, List.length_cons, List.length_nil, true_or, or_true, List.set_set, ne_eq, not_false_eq_true, Fin.isValue, Fin.val_zero, Fin.val_one, Fin.val_two, reduceCtorEq, Option.map_some, List.length_set, Nat.zero_lt_succ, Option.toList_some, Option.toList_none, List.cons_append, List.nil_append, px_b_2, IA, LA, BA, ZA, QA, PT, DR, TL, MC, CD, CC, false_and, or_false, false_or, nar_b, nar_0, nar_1, nar_y, g100, g_place, h11, g_ops, h131, c7, g_opIs, g_opA, g_opB, g_opC, h132, h133, h134, h135, q1, q2, q3, q4]) | (refine ⟨_, rfl, by omega, ?_⟩) | (refine ⟨fun h => absurd h (nI_nlt (by omega) (by omega)), fun _ => ?_⟩) | (refine ⟨fun _ => ?_, fun h => absurd h (nI_nlt (by omega) (by omega))⟩) | (refine ⟨fun h => absurd (nI_lt (by omega) (by omega)) h, fun _ => ?_⟩) | (refine ⟨fun _ => ?_, fun h => absurd (nI_lt (by omega) (by omega)) h⟩) | (refine ⟨fun h => absurd ((nI_eq (by omega) (by omega)).mp h) (by omega), fun _ => ?_⟩) | (refine ⟨fun _ => ?_, fun h => absurd ((nI_eq (by omega) (by omega)).mp h) (by omega)⟩) | (refine ⟨fun h => absurd h (by decide), fun _ => ?_⟩) | (refine ⟨fun _ => ?_, fun h => absurd h (by decide)⟩) | (refine ⟨fun h => absurd rfl h, fun _ => ?_⟩) | (refine ⟨fun _ => ?_, fun h => absurd rfl h⟩)))
end ACU
/-! the Model orders a level -/
def tP (key : Nat → Nat) (a i : Nat) (t : Nat → Nat) : Prop := (∀ q, a ≤ q → q < i → a ≤ t q ∧ t q < i) ∧ (∀ q q', a ≤ q → q < i → a ≤ q' → q' < i → t q = t q' → q = q') ∧ (∀ x, a ≤ x → x < i → ∃ q, a ≤ q ∧ q < i ∧ t q = x) ∧ ∀ q q', a ≤ q → q ≤ q' → q' < i → key (t q) ≤ key (t q')
def tIns (t : Nat → Nat) (i j : Nat) : Nat → Nat := fun q => if q < j then t q else if q = j then i else t (q - 1)
theorem tP_ins {key : Nat → Nat} {a i j : Nat} {t : Nat → Nat} (h : tP key a i t) (h1 : a ≤ j) (h2 : j ≤ i) (h3 : ∀ q, j ≤ q → q < i → key i < key (t q)) (h4 : j = a ∨ key (t (j - 1)) ≤ key i) : tP key a (i + 1) (tIns t i j) := by
  obtain ⟨p1, p2, p3, p4⟩ := h
  have e1 : ∀ q, q < j → tIns t i j q = t q := fun q hq => if_pos hq
  have e2 : tIns t i j j = i := by
    unfold tIns
    rw [if_neg (by omega), if_pos rfl]
  have e3 : ∀ q, j < q → tIns t i j q = t (q - 1) := fun q hq => by
    unfold tIns
    rw [if_neg (by omega), if_neg (by omega)]
  have low : ∀ q, a ≤ q → q < j → key (t q) ≤ key i := fun q hq hqj => by
    rcases h4 with h4 | h4
    · omega
    · have := p4 q (j - 1) hq (by omega) (by omega)
      omega
  refine ⟨fun q hq hqi => ?_, fun q q' hq hqi hq' hqi' e => ?_, fun x hx hxi => ?_, fun q q' hq hqq hqi' => ?_⟩
  · rcases Nat.lt_trichotomy q j with z | z | z
    · rw [e1 q z]
      have := p1 q hq (by omega)
      omega
    · rw [z, e2]; omega
    · rw [e3 q z]
      have := p1 (q - 1) (by omega) (by omega)
      omega
  · rcases Nat.lt_trichotomy q j with z | z | z
    · rw [e1 q z] at e
      have b1 := p1 q hq (by omega)
      rcases Nat.lt_trichotomy q' j with z' | z' | z'
      · rw [e1 q' z'] at e
        exact p2 q q' hq (by omega) hq' (by omega) e
      · rw [z', e2] at e; omega
      · rw [e3 q' z'] at e
        have := p2 q (q' - 1) hq (by omega) (by omega) (by omega) e
        omega
    · rw [z, e2] at e
      rcases Nat.lt_trichotomy q' j with z' | z' | z'
      · rw [e1 q' z'] at e
        have b1 := p1 q' hq' (by omega)
        omega
      · omega
      · rw [e3 q' z'] at e
        have b1 := p1 (q' - 1) (by omega) (by omega)
        omega
    · rw [e3 q z] at e
      have b1 := p1 (q - 1) (by omega) (by omega)
      rcases Nat.lt_trichotomy q' j with z' | z' | z'
      · rw [e1 q' z'] at e
        have := p2 (q - 1) q' (by omega) (by omega) hq' (by omega) e
        omega
      · rw [z', e2] at e; omega
      · rw [e3 q' z'] at e
        have := p2 (q - 1) (q' - 1) (by omega) (by omega) (by omega) (by omega) e
        omega
  · by_cases hx1 : x = i
    · exact ⟨j, h1, by omega, by rw [e2, hx1]⟩
    · obtain ⟨q, g1, g2, g3⟩ := p3 x hx (by omega)
      rcases Nat.lt_or_ge q j with z | z
      · exact ⟨q, g1, by omega, by rw [e1 q z]; exact g3⟩
      · exact ⟨q + 1, by omega, by omega, by rw [e3 (q + 1) (by omega), Nat.add_sub_cancel]; exact g3⟩
  · rcases Nat.lt_trichotomy q j with z | z | z
    · rw [e1 q z]
      rcases Nat.lt_trichotomy q' j with z' | z' | z'
      · rw [e1 q' z']; exact p4 q q' hq hqq (by omega)
      · rw [z', e2]; exact low q hq z
      · rw [e3 q' z']; exact p4 q (q' - 1) hq (by omega) (by omega)
    · rw [z, e2]
      rcases Nat.lt_trichotomy q' j with z' | z' | z'
      · omega
      · rw [z', e2]; exact Nat.le_refl _
      · rw [e3 q' z']
        have := h3 (q' - 1) (by omega) (by omega)
        omega
    · rw [e3 q z, e3 q' (by omega)]
      exact p4 (q - 1) (q' - 1) (by omega) (by omega) (by omega)
/-- ranks by places -/
def rkP (key : Nat → Nat) (t : Nat → Nat) (a : Nat) : Nat → Nat
  | 0 => 0
  | r + 1 => rkP key t a r + if key (t (a + r)) < key (t (a + r + 1)) then 1 else 0
theorem rkP_le {key t : Nat → Nat} {a : Nat} : ∀ r, rkP key t a r ≤ r
  | 0 => Nat.le_refl _
  | r + 1 => by
    unfold rkP
    have := rkP_le (key := key) (t := t) (a := a) r
    split <;> omega
theorem rkP_cmp {key t : Nat → Nat} {a i : Nat} (h : tP key a i t) : ∀ (s r : Nat), a + r + s < i → (key (t (a + r)) = key (t (a + (r + s))) ∧ rkP key t a r = rkP key t a (r + s)) ∨ (key (t (a + r)) < key (t (a + (r + s))) ∧ rkP key t a r < rkP key t a (r + s))
  | 0, r, _ => Or.inl ⟨rfl, rfl⟩
  | s + 1, r, hr => by
    have ih := rkP_cmp h s r (by omega)
    have h4 := h.2.2.2 (a + (r + s)) (a + (r + s) + 1) (by omega) (by omega) (by omega)
    have e : rkP key t a (r + (s + 1)) = rkP key t a (r + s) + if key (t (a + (r + s))) < key (t (a + (r + s) + 1)) then 1 else 0 := rfl
    have e2 : a + (r + (s + 1)) = a + (r + s) + 1 := by omega
    rw [e, e2]
    by_cases hl : key (t (a + (r + s))) < key (t (a + (r + s) + 1))
    · rw [if_pos hl]
      rcases ih with ⟨q1, q2⟩ | ⟨q1, q2⟩
      · exact Or.inr ⟨by omega, by omega⟩
      · exact Or.inr ⟨by omega, by omega⟩
    · rw [if_neg hl]
      rcases ih with ⟨q1, q2⟩ | ⟨q1, q2⟩
      · exact Or.inl ⟨by omega, by omega⟩
      · exact Or.inr ⟨by omega, by omega⟩
section ORD
variable {G : px_G} {ph : List px_E} {d : Nat} {Q : Option Value → List px_E → Prop} {m0 m : Nat → Int32} {st : NS}
set_option maxRecDepth 100000 in
set_option maxHeartbeats 4000000 in
theorem c_N_placeOf {i : Nat} (hX : nX ph m0 m st) (hi : i < st.1) (hQ : Q (some (.int (nI (dg (st.2.1 i) 22 9)))) ph) : px_Met G mX12_placeOf d 0 0 [.ref 100, .int (nI i)] ph Q := by
  obtain ⟨h100, -, ⟨hc, hsh⟩, F, Cf, s, sl, k136, -, -, v1, -⟩ := hX
  have hF := (v1 i hi).1
  have hy := hsh i hi
  generalize st.2.1 i = y at hF hy hQ
  have hp := dg_p hy
  have hT : TS y < 2 ^ 34 := TY_lt hp
  have e0 : lN (TS y) &&& lN 63 = lN (dg y 22 9) := by
    have h3 := mkW_lt y 3
    rw [show (63 : Nat) = 2 ^ 6 - 1 from rfl, wb_mask (by omega) (by omega)]
    congr 1
    unfold TS TY' TM
    omega
  refine px_start kX12_placeOf (Nat.le_of_ble_eq_true rfl) ?_
  show px_W G _ _ _ _ _ 0 0 0 [some (.ref 100), some (.int (nI i))] [] ph
  (repeat (first | (refine px_st rfl rfl ?_; simp only [px_wp, px_at, px_set, px_set2, px_clr, px_ldi, px_ldl, px_lda, px_i1, px_i2, px_l1, px_l2, px_il, px_a1, px_r1, px_r2, px_ir, px_vir, px_g, px_v1, px_v2, px_gf, px_pf, px_ps, px_ar, px_nth, px_upd, px_zero, px_dfl, px_put_self, px_put_ne, px_sw, nI_add, pk_mul, true_and, and_true, Nat.reduceAdd, Nat.reduceLT, Nat.reduceEqDiff, List.length_cons, List.length_nil, true_or, or_true, List.set_set, ne_eq, not_false_eq_true, Fin.isValue, Fin.val_zero, Fin.val_one, Fin.val_two, reduceCtorEq, Option.map_some, List.length_set, Nat.zero_lt_succ, Option.toList_some, Option.toList_none, List.cons_append, List.nil_append, px_b_2, IA, LA, BA, ZA, QA, PT, DR, TL, MC, CD, CC, false_and, or_false, false_or, nar_b, nar_0, nar_1, nar_y, h100, g_shape, k136, hF, e0, l_i]) | (refine ⟨_, rfl, by omega, ?_⟩) | (refine ⟨fun h => absurd h (nI_nlt (by omega) (by omega)), fun _ => ?_⟩) | (refine ⟨fun _ => ?_, fun h => absurd h (nI_nlt (by omega) (by omega))⟩) | (refine ⟨fun h => absurd (nI_lt (by omega) (by omega)) h, fun _ => ?_⟩) | (refine ⟨fun _ => ?_, fun h => absurd (nI_lt (by omega) (by omega)) h⟩) | (refine ⟨fun h => absurd ((nI_eq (by omega) (by omega)).mp h) (by omega), fun _ => ?_⟩) | (refine ⟨fun _ => ?_, fun h => absurd ((nI_eq (by omega) (by omega)).mp h) (by omega)⟩) | (refine ⟨fun h => absurd h (by decide), fun _ => ?_⟩) | (refine ⟨fun _ => ?_, fun h => absurd h (by decide)⟩) | (refine ⟨fun h => absurd rfl h, fun _ => ?_⟩) | (refine ⟨fun _ => ?_, fun h => absurd rfl h⟩)))
  exact px_ireturn rfl (Or.inl rfl) (Nat.le_refl _) (Nat.le_refl _) hQ
set_option maxRecDepth 100000 in
set_option maxHeartbeats 4000000 in
theorem c_N_isBefore {a b ca cb ra rb : Nat} {R C : Nat → Int32} (hX : nX ph m0 m st) (ha : a < st.1) (hb : b < st.1) (h137 : ph[137]? = some (IA 3001 R)) (h138 : ph[138]? = some (IA 3001 C)) (hca : C a = nI ca) (hcb : C b = nI cb) (hca3 : ca < 3001) (hcb3 : cb < 3001) (hra : R ca = nI ra) (hrb : R cb = nI rb) (hr1 : ra < 2 ^ 20) (hr2 : rb < 2 ^ 20) (hQ : Q (some (.int (px_b (decide (ra * 64 + dg (st.2.1 a) 22 9 < rb * 64 + dg (st.2.1 b) 22 9))))) ph) : px_Met G mX12_isBefore (d + 1) 0 0 [.ref 100, .int (nI a), .int (nI b)] ph Q := by
  have h100 := hX.M
  have hc := hX.2.2.1.1
  have pa := dg_p (hX.2.2.1.2 a ha)
  have pb := dg_p (hX.2.2.1.2 b hb)
  refine px_start kX12_isBefore (Nat.le_of_ble_eq_true rfl) ?_
  show px_W G _ _ _ _ _ 0 0 0 [some (.ref 100), some (.int (nI a)), some (.int (nI b)), none, none] [] ph
  by_cases he : ra = rb
  · subst he
    (repeat (first | (refine px_st rfl rfl ?_; simp only [px_wp, px_at, px_set, px_set2, px_clr, px_ldi, px_ldl, px_lda, px_i1, px_i2, px_l1, px_l2, px_il, px_a1, px_r1, px_r2, px_ir, px_vir, px_g, px_v1, px_v2, px_gf, px_pf, px_ps, px_ar, px_nth, px_upd, px_zero, px_dfl, px_put_self, px_put_ne, px_sw, nI_add, pk_mul, true_and, and_true, Nat.reduceAdd, Nat.reduceLT, Nat.reduceEqDiff, List.length_cons, List.length_nil, true_or, or_true, List.set_set, ne_eq, not_false_eq_true, Fin.isValue, Fin.val_zero, Fin.val_one, Fin.val_two, reduceCtorEq, Option.map_some, List.length_set, Nat.zero_lt_succ, Option.toList_some, Option.toList_none, List.cons_append, List.nil_append, px_b_2, IA, LA, BA, ZA, QA, PT, DR, TL, MC, CD, CC, false_and, or_false, false_or, nar_b, nar_0, nar_1, nar_y, h100, g_rank, g_cameFrom, h137, h138, hca, hcb, hra, hrb]) | (refine ⟨_, rfl, by omega, ?_⟩) | (refine ⟨fun h => absurd h (nI_nlt (by omega) (by omega)), fun _ => ?_⟩) | (refine ⟨fun _ => ?_, fun h => absurd h (nI_nlt (by omega) (by omega))⟩) | (refine ⟨fun h => absurd (nI_lt (by omega) (by omega)) h, fun _ => ?_⟩) | (refine ⟨fun _ => ?_, fun h => absurd (nI_lt (by omega) (by omega)) h⟩) | (refine ⟨fun h => absurd ((nI_eq (by omega) (by omega)).mp h) (by omega), fun _ => ?_⟩) | (refine ⟨fun _ => ?_, fun h => absurd ((nI_eq (by omega) (by omega)).mp h) (by omega)⟩) | (refine ⟨fun h => absurd h (by decide), fun _ => ?_⟩) | (refine ⟨fun _ => ?_, fun h => absurd h (by decide)⟩) | (refine ⟨fun h => absurd rfl h, fun _ => ?_⟩) | (refine ⟨fun _ => ?_, fun h => absurd rfl h⟩)))
    refine px_cV rfl rfl kX12_placeOf rfl (c_N_placeOf (d := d) hX ha ?_) (Nat.le_refl _) h100 rfl rfl rfl (Nat.le_of_ble_eq_true rfl) (Nat.zero_le _) (Nat.zero_le _)
    (repeat (first | (refine px_st rfl rfl ?_; simp only [px_wp, px_at, px_set, px_set2, px_clr, px_ldi, px_ldl, px_lda, px_i1, px_i2, px_l1, px_l2, px_il, px_a1, px_r1, px_r2, px_ir, px_vir, px_g, px_v1, px_v2, px_gf, px_pf, px_ps, px_ar, px_nth, px_upd, px_zero, px_dfl, px_put_self, px_put_ne, px_sw, nI_add, pk_mul, true_and, and_true, Nat.reduceAdd, Nat.reduceLT, Nat.reduceEqDiff, List.length_cons, List.length_nil, true_or, or_true, List.set_set, ne_eq, not_false_eq_true, Fin.isValue, Fin.val_zero, Fin.val_one, Fin.val_two, reduceCtorEq, Option.map_some, List.length_set, Nat.zero_lt_succ, Option.toList_some, Option.toList_none, List.cons_append, List.nil_append, px_b_2, IA, LA, BA, ZA, QA, PT, DR, TL, MC, CD, CC, false_and, or_false, false_or, nar_b, nar_0, nar_1, nar_y]) | (refine ⟨_, rfl, by omega, ?_⟩) | (refine ⟨fun h => absurd h (nI_nlt (by omega) (by omega)), fun _ => ?_⟩) | (refine ⟨fun _ => ?_, fun h => absurd h (nI_nlt (by omega) (by omega))⟩) | (refine ⟨fun h => absurd (nI_lt (by omega) (by omega)) h, fun _ => ?_⟩) | (refine ⟨fun _ => ?_, fun h => absurd (nI_lt (by omega) (by omega)) h⟩) | (refine ⟨fun h => absurd ((nI_eq (by omega) (by omega)).mp h) (by omega), fun _ => ?_⟩) | (refine ⟨fun _ => ?_, fun h => absurd ((nI_eq (by omega) (by omega)).mp h) (by omega)⟩) | (refine ⟨fun h => absurd h (by decide), fun _ => ?_⟩) | (refine ⟨fun _ => ?_, fun h => absurd h (by decide)⟩) | (refine ⟨fun h => absurd rfl h, fun _ => ?_⟩) | (refine ⟨fun _ => ?_, fun h => absurd rfl h⟩)))
    refine px_cV rfl rfl kX12_placeOf rfl (c_N_placeOf (d := d) hX hb ?_) (Nat.le_refl _) h100 rfl rfl rfl (Nat.le_of_ble_eq_true rfl) (Nat.zero_le _) (Nat.zero_le _)
    by_cases hl : dg (st.2.1 a) 22 9 < dg (st.2.1 b) 22 9
    · rw [decide_eq_true (by omega)] at hQ
      (repeat (first | (refine px_st rfl rfl ?_; simp only [px_wp, px_at, px_set, px_set2, px_clr, px_ldi, px_ldl, px_lda, px_i1, px_i2, px_l1, px_l2, px_il, px_a1, px_r1, px_r2, px_ir, px_vir, px_g, px_v1, px_v2, px_gf, px_pf, px_ps, px_ar, px_nth, px_upd, px_zero, px_dfl, px_put_self, px_put_ne, px_sw, nI_add, pk_mul, true_and, and_true, Nat.reduceAdd, Nat.reduceLT, Nat.reduceEqDiff, List.length_cons, List.length_nil, true_or, or_true, List.set_set, ne_eq, not_false_eq_true, Fin.isValue, Fin.val_zero, Fin.val_one, Fin.val_two, reduceCtorEq, Option.map_some, List.length_set, Nat.zero_lt_succ, Option.toList_some, Option.toList_none, List.cons_append, List.nil_append, px_b_2, IA, LA, BA, ZA, QA, PT, DR, TL, MC, CD, CC, false_and, or_false, false_or, nar_b, nar_0, nar_1, nar_y]) | (refine ⟨_, rfl, by omega, ?_⟩) | (refine ⟨fun h => absurd h (nI_nlt (by omega) (by omega)), fun _ => ?_⟩) | (refine ⟨fun _ => ?_, fun h => absurd h (nI_nlt (by omega) (by omega))⟩) | (refine ⟨fun h => absurd (nI_lt (by omega) (by omega)) h, fun _ => ?_⟩) | (refine ⟨fun _ => ?_, fun h => absurd (nI_lt (by omega) (by omega)) h⟩) | (refine ⟨fun h => absurd ((nI_eq (by omega) (by omega)).mp h) (by omega), fun _ => ?_⟩) | (refine ⟨fun _ => ?_, fun h => absurd ((nI_eq (by omega) (by omega)).mp h) (by omega)⟩) | (refine ⟨fun h => absurd h (by decide), fun _ => ?_⟩) | (refine ⟨fun _ => ?_, fun h => absurd h (by decide)⟩) | (refine ⟨fun h => absurd rfl h, fun _ => ?_⟩) | (refine ⟨fun _ => ?_, fun h => absurd rfl h⟩)))
      exact px_ireturn rfl (Or.inr ⟨rfl, Or.inr rfl⟩) (Nat.le_refl _) (Nat.le_refl _) hQ
    · rw [decide_eq_false (by omega)] at hQ
      (repeat (first | (refine px_st rfl rfl ?_; simp only [px_wp, px_at, px_set, px_set2, px_clr, px_ldi, px_ldl, px_lda, px_i1, px_i2, px_l1, px_l2, px_il, px_a1, px_r1, px_r2, px_ir, px_vir, px_g, px_v1, px_v2, px_gf, px_pf, px_ps, px_ar, px_nth, px_upd, px_zero, px_dfl, px_put_self, px_put_ne, px_sw, nI_add, pk_mul, true_and, and_true, Nat.reduceAdd, Nat.reduceLT, Nat.reduceEqDiff, List.length_cons, List.length_nil, true_or, or_true, List.set_set, ne_eq, not_false_eq_true, Fin.isValue, Fin.val_zero, Fin.val_one, Fin.val_two, reduceCtorEq, Option.map_some, List.length_set, Nat.zero_lt_succ, Option.toList_some, Option.toList_none, List.cons_append, List.nil_append, px_b_2, IA, LA, BA, ZA, QA, PT, DR, TL, MC, CD, CC, false_and, or_false, false_or, nar_b, nar_0, nar_1, nar_y]) | (refine ⟨_, rfl, by omega, ?_⟩) | (refine ⟨fun h => absurd h (nI_nlt (by omega) (by omega)), fun _ => ?_⟩) | (refine ⟨fun _ => ?_, fun h => absurd h (nI_nlt (by omega) (by omega))⟩) | (refine ⟨fun h => absurd (nI_lt (by omega) (by omega)) h, fun _ => ?_⟩) | (refine ⟨fun _ => ?_, fun h => absurd (nI_lt (by omega) (by omega)) h⟩) | (refine ⟨fun h => absurd ((nI_eq (by omega) (by omega)).mp h) (by omega), fun _ => ?_⟩) | (refine ⟨fun _ => ?_, fun h => absurd ((nI_eq (by omega) (by omega)).mp h) (by omega)⟩) | (refine ⟨fun h => absurd h (by decide), fun _ => ?_⟩) | (refine ⟨fun _ => ?_, fun h => absurd h (by decide)⟩) | (refine ⟨fun h => absurd rfl h, fun _ => ?_⟩) | (refine ⟨fun _ => ?_, fun h => absurd rfl h⟩)))
      exact px_ireturn rfl (Or.inr ⟨rfl, Or.inl rfl⟩) (Nat.le_refl _) (Nat.le_refl _) hQ
  · by_cases hl : ra < rb
    · rw [decide_eq_true (by omega)] at hQ
      (repeat (first | (refine px_st rfl rfl ?_; simp only [px_wp, px_at, px_set, px_set2, px_clr, px_ldi, px_ldl, px_lda, px_i1, px_i2, px_l1, px_l2, px_il, px_a1, px_r1, px_r2, px_ir, px_vir, px_g, px_v1, px_v2, px_gf, px_pf, px_ps, px_ar, px_nth, px_upd, px_zero, px_dfl, px_put_self, px_put_ne, px_sw, nI_add, pk_mul, true_and, and_true, Nat.reduceAdd, Nat.reduceLT, Nat.reduceEqDiff, List.length_cons, List.length_nil, true_or, or_true, List.set_set, ne_eq, not_false_eq_true, Fin.isValue, Fin.val_zero, Fin.val_one, Fin.val_two, reduceCtorEq, Option.map_some, List.length_set, Nat.zero_lt_succ, Option.toList_some, Option.toList_none, List.cons_append, List.nil_append, px_b_2, IA, LA, BA, ZA, QA, PT, DR, TL, MC, CD, CC, false_and, or_false, false_or, nar_b, nar_0, nar_1, nar_y, h100, g_rank, g_cameFrom, h137, h138, hca, hcb, hra, hrb]) | (refine ⟨_, rfl, by omega, ?_⟩) | (refine ⟨fun h => absurd h (nI_nlt (by omega) (by omega)), fun _ => ?_⟩) | (refine ⟨fun _ => ?_, fun h => absurd h (nI_nlt (by omega) (by omega))⟩) | (refine ⟨fun h => absurd (nI_lt (by omega) (by omega)) h, fun _ => ?_⟩) | (refine ⟨fun _ => ?_, fun h => absurd (nI_lt (by omega) (by omega)) h⟩) | (refine ⟨fun h => absurd ((nI_eq (by omega) (by omega)).mp h) (by omega), fun _ => ?_⟩) | (refine ⟨fun _ => ?_, fun h => absurd ((nI_eq (by omega) (by omega)).mp h) (by omega)⟩) | (refine ⟨fun h => absurd h (by decide), fun _ => ?_⟩) | (refine ⟨fun _ => ?_, fun h => absurd h (by decide)⟩) | (refine ⟨fun h => absurd rfl h, fun _ => ?_⟩) | (refine ⟨fun _ => ?_, fun h => absurd rfl h⟩)))
      exact px_ireturn rfl (Or.inr ⟨rfl, Or.inr rfl⟩) (Nat.le_refl _) (Nat.le_refl _) hQ
    · rw [decide_eq_false (by omega)] at hQ
      (repeat (first | (refine px_st rfl rfl ?_; simp only [px_wp, px_at, px_set, px_set2, px_clr, px_ldi, px_ldl, px_lda, px_i1, px_i2, px_l1, px_l2, px_il, px_a1, px_r1, px_r2, px_ir, px_vir, px_g, px_v1, px_v2, px_gf, px_pf, px_ps, px_ar, px_nth, px_upd, px_zero, px_dfl, px_put_self, px_put_ne, px_sw, nI_add, pk_mul, true_and, and_true, Nat.reduceAdd, Nat.reduceLT, Nat.reduceEqDiff, List.length_cons, List.length_nil, true_or, or_true, List.set_set, ne_eq, not_false_eq_true, Fin.isValue, Fin.val_zero, Fin.val_one, Fin.val_two, reduceCtorEq, Option.map_some, List.length_set, Nat.zero_lt_succ, Option.toList_some, Option.toList_none, List.cons_append, List.nil_append, px_b_2, IA, LA, BA, ZA, QA, PT, DR, TL, MC, CD, CC, false_and, or_false, false_or, nar_b, nar_0, nar_1, nar_y, h100, g_rank, g_cameFrom, h137, h138, hca, hcb, hra, hrb]) | (refine ⟨_, rfl, by omega, ?_⟩) | (refine ⟨fun h => absurd h (nI_nlt (by omega) (by omega)), fun _ => ?_⟩) | (refine ⟨fun _ => ?_, fun h => absurd h (nI_nlt (by omega) (by omega))⟩) | (refine ⟨fun h => absurd (nI_lt (by omega) (by omega)) h, fun _ => ?_⟩) | (refine ⟨fun _ => ?_, fun h => absurd (nI_lt (by omega) (by omega)) h⟩) | (refine ⟨fun h => absurd ((nI_eq (by omega) (by omega)).mp h) (by omega), fun _ => ?_⟩) | (refine ⟨fun _ => ?_, fun h => absurd ((nI_eq (by omega) (by omega)).mp h) (by omega)⟩) | (refine ⟨fun h => absurd h (by decide), fun _ => ?_⟩) | (refine ⟨fun _ => ?_, fun h => absurd h (by decide)⟩) | (refine ⟨fun h => absurd rfl h, fun _ => ?_⟩) | (refine ⟨fun _ => ?_, fun h => absurd rfl h⟩)))
      exact px_ireturn rfl (Or.inr ⟨rfl, Or.inl rfl⟩) (Nat.le_refl _) (Nat.le_refl _) hQ
end ORD
