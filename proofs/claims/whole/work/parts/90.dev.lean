/-! the Model makes shapes -/
section MYY
variable {m : Nat → Int32} {y v a b w : Nat}
theorem mk_oth (hv : v < 6) (ha : a < 4) (hb : b < 4) (h1 : ¬ a = w) (h2 : ¬ b = w) : mkW (sHo y v a) w = mkW (sHo y v b) w := by
  have e1 := mkW_ho (n := y) (w := w) hv ha
  have e2 := mkW_ho (n := y) (w := w) hv hb
  rw [if_neg h1] at e1
  rw [if_neg h2] at e2
  omega
theorem mk_set (hv : v < 6) (hw : 1 ≤ w) (hw4 : w < 4) : nI (mkW (sHo y v 0) w) ||| (nI 1 <<< (nI v &&& 31)) = nI (mkW (sHo y v w) w) := by
  rw [tk_set _ (mkW_lt _ _) v hv, mkW_bit hv, wq_ho (by omega), if_pos rfl, if_neg (by omega)]
  have e1 := mkW_ho (n := y) (w := w) (a := 0) hv (by omega)
  have e2 := mkW_ho (n := y) (w := w) (a := w) hv hw4
  rw [if_neg (by omega)] at e1
  rw [if_pos rfl] at e2
  congr 1
  omega
theorem dg_ho {j l : Nat} (hv : v < 6) (ha : a < 4) (hj : 12 ≤ j) : dg (sHo y v a) j l = dg y j l := dg_rp ha (Or.inr (by omega))
theorem mY_ho (hv : v < 6) (ha : a < 4) (h2 : m 12 = nI (mkW (sHo y v a) 3)) (h6 : m 16 = nI (mkW (sHo y v a) 1)) (h9 : m 19 = nI (mkW (sHo y v a) 2)) (h3 : m 13 = nI (dg y 14 1)) (h4 : m 14 = nI (dg y 15 1)) (h5 : m 15 = nI (dg y 17 5)) (h7 : m 17 = nI (dg y 12 1)) (h8 : m 18 = nI (dg y 16 1)) (h10 : m 20 = nI (dg y 13 1)) : mY m (sHo y v a) := by
  refine ⟨h2, ?_, ?_, ?_, h6, ?_, ?_, h9, ?_⟩
  · rw [dg_ho hv ha (by omega)]; exact h3
  · rw [dg_ho hv ha (by omega)]; exact h4
  · rw [dg_ho hv ha (by omega)]; exact h5
  · rw [dg_ho hv ha (by omega)]; exact h7
  · rw [dg_ho hv ha (by omega)]; exact h8
  · rw [dg_ho hv ha (by omega)]; exact h10
/-- as far as a variable isn't touched -/
theorem mY_0 (hv : v < 6) (h : mY m (sHo y v 0)) : m 13 = nI (dg y 14 1) ∧ m 14 = nI (dg y 15 1) ∧ m 15 = nI (dg y 17 5) ∧ m 17 = nI (dg y 12 1) ∧ m 18 = nI (dg y 16 1) ∧ m 20 = nI (dg y 13 1) := by
  obtain ⟨y2, y3, y4, y5, y6, y7, y8, y9, y10⟩ := h
  rw [dg_ho hv (by omega) (by omega)] at y3 y4 y5 y7 y8 y10
  exact ⟨y3, y4, y5, y7, y8, y10⟩
theorem mY_3 {m' : Nat → Int32} (hv : v < 6) (h : mY m (sHo y v 0)) (h2 : m' 12 = nI (mkW (sHo y v 3) 3)) (he : ∀ i, 12 < i → i ≤ 20 → m' i = m i) : mY m' (sHo y v 3) := by
  obtain ⟨q3, q4, q5, q7, q8, q10⟩ := mY_0 hv h
  obtain ⟨y2, -, -, -, y6, -, -, y9, -⟩ := h
  exact mY_ho hv (by omega) h2 ((he _ (by omega) (by omega)).trans (y6.trans (congrArg nI (mk_oth hv (by omega) (by omega) (by omega) (by omega))))) ((he _ (by omega) (by omega)).trans (y9.trans (congrArg nI (mk_oth hv (by omega) (by omega) (by omega) (by omega))))) ((he _ (by omega) (by omega)).trans q3) ((he _ (by omega) (by omega)).trans q4) ((he _ (by omega) (by omega)).trans q5) ((he _ (by omega) (by omega)).trans q7) ((he _ (by omega) (by omega)).trans q8) ((he _ (by omega) (by omega)).trans q10)
theorem mY_1 {m' : Nat → Int32} (hv : v < 6) (h : mY m (sHo y v 0)) (h2 : m' 16 = nI (mkW (sHo y v 1) 1)) (he : ∀ i, 12 ≤ i → i ≤ 20 → ¬ i = 16 → m' i = m i) : mY m' (sHo y v 1) := by
  obtain ⟨q3, q4, q5, q7, q8, q10⟩ := mY_0 hv h
  obtain ⟨y2, -, -, -, y6, -, -, y9, -⟩ := h
  exact mY_ho hv (by omega) ((he _ (by omega) (by omega) (by omega)).trans (y2.trans (congrArg nI (mk_oth hv (by omega) (by omega) (by omega) (by omega))))) h2 ((he _ (by omega) (by omega) (by omega)).trans (y9.trans (congrArg nI (mk_oth hv (by omega) (by omega) (by omega) (by omega))))) ((he _ (by omega) (by omega) (by omega)).trans q3) ((he _ (by omega) (by omega) (by omega)).trans q4) ((he _ (by omega) (by omega) (by omega)).trans q5) ((he _ (by omega) (by omega) (by omega)).trans q7) ((he _ (by omega) (by omega) (by omega)).trans q8) ((he _ (by omega) (by omega) (by omega)).trans q10)
theorem mY_2 {m' : Nat → Int32} (hv : v < 6) (h : mY m (sHo y v 0)) (h2 : m' 19 = nI (mkW (sHo y v 2) 2)) (he : ∀ i, 12 ≤ i → i ≤ 20 → ¬ i = 19 → m' i = m i) : mY m' (sHo y v 2) := by
  obtain ⟨q3, q4, q5, q7, q8, q10⟩ := mY_0 hv h
  obtain ⟨y2, -, -, -, y6, -, -, y9, -⟩ := h
  exact mY_ho hv (by omega) ((he _ (by omega) (by omega) (by omega)).trans (y2.trans (congrArg nI (mk_oth hv (by omega) (by omega) (by omega) (by omega))))) ((he _ (by omega) (by omega) (by omega)).trans (y6.trans (congrArg nI (mk_oth hv (by omega) (by omega) (by omega) (by omega))))) h2 ((he _ (by omega) (by omega) (by omega)).trans q3) ((he _ (by omega) (by omega) (by omega)).trans q4) ((he _ (by omega) (by omega) (by omega)).trans q5) ((he _ (by omega) (by omega) (by omega)).trans q7) ((he _ (by omega) (by omega) (by omega)).trans q8) ((he _ (by omega) (by omega) (by omega)).trans q10)
theorem mkW_none (h : ∀ v, v < 6 → ¬ dg y (2 * v) 2 = w) : mkW y w = 0 := by
  have e : ∀ v, v < 6 → wq y w v = 0 := fun v hv => by
    unfold wq
    rw [if_neg (h v hv)]
  unfold mkW
  rw [e 0 (by omega), e 1 (by omega), e 2 (by omega), e 3 (by omega), e 4 (by omega), e 5 (by omega)]
theorem mkW_only (hv : v < 6) (hw : 1 ≤ w) (hw4 : w < 4) (h : ∀ v, v < 6 → ¬ dg y (2 * v) 2 = w) : mkW (sHo y v w) w = 2 ^ v := by
  have e := mkW_ho (n := y) (w := w) (a := w) hv hw4
  rw [mkW_none h, if_pos rfl] at e
  have e2 : wq y w v = 0 := by
    unfold wq
    rw [if_neg (h v hv)]
  rw [e2] at e
  omega
/-- the chosen one is there -/
theorem mY_br1 {m' : Nat → Int32} {sn : Nat} {z : Bool} (ho : okS sn z y) (h0 : dg y 15 1 = 0) (hv : v < 6) (h : mY m (sHo y v 0)) (e4 : m' 14 = nI 1) (e5 : m' 15 = nI 0) (e6 : m' 16 = nI (2 ^ v)) (e7 : m' 17 = nI 0) (he : ∀ i, i = 12 ∨ i = 13 ∨ i = 18 ∨ i = 19 ∨ i = 20 → m' i = m i) : mY m' (sBr y v 1) := by
  obtain ⟨q3, q4, q5, q7, q8, q10⟩ := mY_0 hv h
  obtain ⟨y2, -, -, -, y6, -, -, y9, -⟩ := h
  obtain ⟨s1, s2, s3⟩ := ho.2.2.2.1 h0
  have r : ∀ j l, j + l ≤ 15 ∨ 16 ≤ j → dg (rp y 15 1 1) j l = dg y j l := fun j l hj => dg_rp (by omega) hj
  have em : ∀ w, mkW (sHo (rp y 15 1 1) v 1) w = mkW (sHo y v 1) w := fun w => by
    show mkW (rp (rp y 15 1 1) (2 * v) 2 1) w = _
    rw [← rp_comm (by omega) (by omega) (by omega)]
    exact mkW_rp (by omega) (by omega)
  refine mY_ho hv (by omega) ?_ ?_ ?_ ?_ ?_ ?_ ?_ ?_ ?_
  · rw [em, he 12 (by omega), y2, mk_oth hv (by omega) (show 1 < 4 by omega) (by omega) (by omega)]
  · rw [em, e6, mkW_only hv (by omega) (by omega) s3]
  · rw [em, he 19 (by omega), y9, mk_oth hv (by omega) (show 1 < 4 by omega) (by omega) (by omega)]
  · rw [he 13 (by omega), q3, r 14 1 (by omega)]
  · rw [e4, dg_at (by omega)]
  · rw [e5, r 17 5 (by omega), s1]
  · rw [e7, r 12 1 (by omega), s2]
  · rw [he 18 (by omega), q8, r 16 1 (by omega)]
  · rw [he 20 (by omega), q10, r 13 1 (by omega)]
theorem mY_br2 {m' : Nat → Int32} {sn : Nat} {z : Bool} (ho : okS sn z y) (h0 : dg y 16 1 = 0) (hv : v < 6) (h : mY m (sHo y v 0)) (e8 : m' 18 = nI 1) (e9 : m' 19 = nI (2 ^ v)) (e10 : m' 20 = nI 0) (he : ∀ i, 12 ≤ i → i ≤ 17 → m' i = m i) : mY m' (sBr y v 2) := by
  obtain ⟨q3, q4, q5, q7, q8, q10⟩ := mY_0 hv h
  obtain ⟨y2, -, -, -, y6, -, -, y9, -⟩ := h
  obtain ⟨s2, s3⟩ := ho.2.2.2.2.1 h0
  have r : ∀ j l, j + l ≤ 16 ∨ 17 ≤ j → dg (rp y 16 1 1) j l = dg y j l := fun j l hj => dg_rp (by omega) hj
  have em : ∀ w, mkW (sHo (rp y 16 1 1) v 2) w = mkW (sHo y v 2) w := fun w => by
    show mkW (rp (rp y 16 1 1) (2 * v) 2 2) w = _
    rw [← rp_comm (by omega) (by omega) (by omega)]
    exact mkW_rp (by omega) (by omega)
  refine mY_ho hv (by omega) ?_ ?_ ?_ ?_ ?_ ?_ ?_ ?_ ?_
  · rw [em, he 12 (by omega) (by omega), y2, mk_oth hv (by omega) (show 2 < 4 by omega) (by omega) (by omega)]
  · rw [em, he 16 (by omega) (by omega), y6, mk_oth hv (by omega) (show 2 < 4 by omega) (by omega) (by omega)]
  · rw [em, e9, mkW_only hv (by omega) (by omega) s3]
  · rw [he 13 (by omega) (by omega), q3, r 14 1 (by omega)]
  · rw [he 14 (by omega) (by omega), q4, r 15 1 (by omega)]
  · rw [he 15 (by omega) (by omega), q5, r 17 5 (by omega)]
  · rw [he 17 (by omega) (by omega), q7, r 12 1 (by omega)]
  · rw [e8, dg_at (by omega)]
  · rw [e10, r 13 1 (by omega), s2]
theorem mv_ho {n p : Nat} (hv : v < 6) (ha : a < 4) (hp : p < 512) : sMv (sHo n v a) p = sHo (sMv n p) v a := rp_comm ha hp (by omega)
theorem mv_br {n p : Nat} (hv : v < 6) (hw : w = 1 ∨ w = 2) (hp : p < 512) : sMv (sBr n v w) p = sBr (sMv n p) v w := by
  have h1 : sMv (sHo (rp n (14 + w) 1 1) v w) p = sHo (sMv (rp n (14 + w) 1 1) p) v w := mv_ho hv (by omega) hp
  have h2 : sMv (rp n (14 + w) 1 1) p = rp (sMv n p) (14 + w) 1 1 := rp_comm (by omega) hp (by omega)
  show sMv (sHo (rp n (14 + w) 1 1) v w) p = sHo (rp (sMv n p) (14 + w) 1 1) v w
  rw [h1, h2]
theorem ntL_app {st : NS} {k : Nat} {A B : List Nat} : ntL st k (A ++ B) = ntL (ntL st k A) k B := List.foldl_append
end MYY
section MKE
variable {G : px_G} {ph : List px_E} {d : Nat} {Q : Option Value → List px_E → Prop} {m0 m : Nat → Int32} {n v k p : Nat} {st : NS} {sn : Nat} {z : Bool}
theorem nX.M (h : nX ph m0 m st) : ph[100]? = some (MD m) := h.1
set_option maxRecDepth 100000 in
set_option maxHeartbeats 4000000 in
theorem c_N_event {mi e : Nat} {fl : Nat → Int32} {nx : Nat → Nat → Option Nat} (h100 : ph[100]? = some (MD m)) (hY : mY m n) (hmi : mi < 12) (hsn : sn ≤ 24) (hnx : ∀ u, u < sn → ∀ e, e < 24 → ∀ j, nx u e = some j → j < sn) (hfl : ∀ u, u < sn → ∀ e, e < 24 → fl (576 * mi + 24 * u + e) = oI (nx u e)) (h116 : ph[116]? = some (IA 6912 fl)) (hs : dg n 17 5 < sn) (he : e < 24) (hQ1 : nx (dg n 17 5) e = none → ∀ m', mY m' n → (∀ i, i < 12 ∨ 20 < i → m' i = m i) → Q (some (.int (nI 1))) (ph.set 100 (MD m'))) (hQ2 : ∀ t, nx (dg n 17 5) e = some t → ∀ m', mY m' (sEn n t) → (∀ i, i < 12 ∨ 20 < i → m' i = m i) → Q (some (.int (nI 0))) (ph.set 100 (MD m'))) : px_Met G mX12_event (d + 1) 0 0 [.ref 100, .int (nI mi), .int (nI e)] ph Q := by
  have hY0 := hY
  obtain ⟨y2, y3, y4, y5, y6, y7, y8, y9, y10⟩ := hY
  refine px_start kX12_event (Nat.le_of_ble_eq_true rfl) ?_
  show px_W G _ _ _ _ _ 0 0 0 [some (.ref 100), some (.int (nI mi)), some (.int (nI e)), none] [] ph
  (repeat (first | (refine px_st rfl rfl ?_; simp only [px_wp, px_at, px_set, px_set2, px_clr, px_ldi, px_ldl, px_lda, px_i1, px_i2, px_l1, px_l2, px_il, px_a1, px_r1, px_r2, px_ir, px_vir, px_g, px_v1, px_v2, px_gf, px_pf, px_ps, px_ar, px_nth, px_upd, px_zero, px_dfl, px_put_self, px_put_ne, px_sw, nI_add, pk_mul, true_and, and_true, Nat.reduceAdd, Nat.reduceLT, Nat.reduceEqDiff, List.length_cons, List.length_nil, true_or, or_true, List.set_set, ne_eq, not_false_eq_true, Fin.isValue, Fin.val_zero, Fin.val_one, Fin.val_two, reduceCtorEq, Option.map_some, List.length_set, Nat.zero_lt_succ, Option.toList_some, Option.toList_none, List.cons_append, List.nil_append, px_b_2, IA, LA, BA, ZA, QA, PT, DR, TL, MC, CD, CC, false_and, or_false, false_or, nar_b, nar_0, nar_1, nar_y, h100, g_state, y5]) | (refine ⟨_, rfl, by omega, ?_⟩) | (refine ⟨fun h => absurd h (nI_nlt (by omega) (by omega)), fun _ => ?_⟩) | (refine ⟨fun _ => ?_, fun h => absurd h (nI_nlt (by omega) (by omega))⟩) | (refine ⟨fun h => absurd (nI_lt (by omega) (by omega)) h, fun _ => ?_⟩) | (refine ⟨fun _ => ?_, fun h => absurd (nI_lt (by omega) (by omega)) h⟩) | (refine ⟨fun h => absurd ((nI_eq (by omega) (by omega)).mp h) (by omega), fun _ => ?_⟩) | (refine ⟨fun _ => ?_, fun h => absurd ((nI_eq (by omega) (by omega)).mp h) (by omega)⟩) | (refine ⟨fun h => absurd h (by decide), fun _ => ?_⟩) | (refine ⟨fun _ => ?_, fun h => absurd h (by decide)⟩) | (refine ⟨fun h => absurd rfl h, fun _ => ?_⟩) | (refine ⟨fun _ => ?_, fun h => absurd rfl h⟩)))
  refine px_cV rfl rfl kX12_lead_ rfl (c_N_lead3 (d := d) hmi (show dg n 17 5 < 24 by omega) he h100 h116 ?_) (Nat.le_refl _) h100 rfl rfl rfl (Nat.le_of_ble_eq_true rfl) (Nat.zero_le _) (Nat.zero_le _)
  rw [hfl _ hs e he]
  cases hx : nx (dg n 17 5) e with
  | none =>
    have hlt : (-2 : Int32) < nI 0 := by decide
    have o1 : oI none = -2 := rfl
    rw [o1]
    have hq := hQ1 hx (upd m 15 (m 15)) (mY_of hY0 (fun i _ _ => by
      unfold upd
      split
      · rename_i e1
        rw [e1]
      · rfl)) (fun i hi => up_ne (by omega))
    rw [y5] at hq
    (repeat (first | (first | refine ⟨fun q => absurd hlt q, fun _ => ?_⟩) | (refine px_st rfl rfl ?_; simp only [px_wp, px_at, px_set, px_set2, px_clr, px_ldi, px_ldl, px_lda, px_i1, px_i2, px_l1, px_l2, px_il, px_a1, px_r1, px_r2, px_ir, px_vir, px_g, px_v1, px_v2, px_gf, px_pf, px_ps, px_ar, px_nth, px_upd, px_zero, px_dfl, px_put_self, px_put_ne, px_sw, nI_add, pk_mul, true_and, and_true, Nat.reduceAdd, Nat.reduceLT, Nat.reduceEqDiff, List.length_cons, List.length_nil, true_or, or_true, List.set_set, ne_eq, not_false_eq_true, Fin.isValue, Fin.val_zero, Fin.val_one, Fin.val_two, reduceCtorEq, Option.map_some, List.length_set, Nat.zero_lt_succ, Option.toList_some, Option.toList_none, List.cons_append, List.nil_append, px_b_2, IA, LA, BA, ZA, QA, PT, DR, TL, MC, CD, CC, false_and, or_false, false_or, nar_b, nar_0, nar_1, nar_y, h100, g_state, y5, p_state, md_len]) | (refine ⟨_, rfl, by omega, ?_⟩) | (refine ⟨fun h => absurd h (nI_nlt (by omega) (by omega)), fun _ => ?_⟩) | (refine ⟨fun _ => ?_, fun h => absurd h (nI_nlt (by omega) (by omega))⟩) | (refine ⟨fun h => absurd (nI_lt (by omega) (by omega)) h, fun _ => ?_⟩) | (refine ⟨fun _ => ?_, fun h => absurd (nI_lt (by omega) (by omega)) h⟩) | (refine ⟨fun h => absurd ((nI_eq (by omega) (by omega)).mp h) (by omega), fun _ => ?_⟩) | (refine ⟨fun _ => ?_, fun h => absurd ((nI_eq (by omega) (by omega)).mp h) (by omega)⟩) | (refine ⟨fun h => absurd h (by decide), fun _ => ?_⟩) | (refine ⟨fun _ => ?_, fun h => absurd h (by decide)⟩) | (refine ⟨fun h => absurd rfl h, fun _ => ?_⟩) | (refine ⟨fun _ => ?_, fun h => absurd rfl h⟩)))
    exact px_ireturn rfl (Or.inr ⟨rfl, Or.inr rfl⟩) (Nat.le_refl _) (Nat.le_refl _) hq
  | some t =>
    have ht := hnx _ hs e he t hx
    have o1 : oI (some t) = nI t := rfl
    rw [o1]
    have r : ∀ j l, j + l ≤ 17 ∨ 22 ≤ j → dg (sEn n t) j l = dg n j l := fun j l hj => dg_rp (by omega) hj
    have hq := hQ2 t hx (upd m 15 (nI t)) (by
      refine ⟨?_, ?_, ?_, ?_, ?_, ?_, ?_, ?_, ?_⟩
      · rw [mkW_rp (by omega) (by omega)]; exact y2
      · rw [r 14 1 (by omega)]; exact y3
      · rw [r 15 1 (by omega)]; exact y4
      · rw [dg_at (by omega)]; rfl
      · rw [mkW_rp (by omega) (by omega)]; exact y6
      · rw [r 12 1 (by omega)]; exact y7
      · rw [r 16 1 (by omega)]; exact y8
      · rw [mkW_rp (by omega) (by omega)]; exact y9
      · rw [r 13 1 (by omega)]; exact y10) (fun i hi => up_ne (by omega))
    (repeat (first | (refine px_st rfl rfl ?_; simp only [px_wp, px_at, px_set, px_set2, px_clr, px_ldi, px_ldl, px_lda, px_i1, px_i2, px_l1, px_l2, px_il, px_a1, px_r1, px_r2, px_ir, px_vir, px_g, px_v1, px_v2, px_gf, px_pf, px_ps, px_ar, px_nth, px_upd, px_zero, px_dfl, px_put_self, px_put_ne, px_sw, nI_add, pk_mul, true_and, and_true, Nat.reduceAdd, Nat.reduceLT, Nat.reduceEqDiff, List.length_cons, List.length_nil, true_or, or_true, List.set_set, ne_eq, not_false_eq_true, Fin.isValue, Fin.val_zero, Fin.val_one, Fin.val_two, reduceCtorEq, Option.map_some, List.length_set, Nat.zero_lt_succ, Option.toList_some, Option.toList_none, List.cons_append, List.nil_append, px_b_2, IA, LA, BA, ZA, QA, PT, DR, TL, MC, CD, CC, false_and, or_false, false_or, nar_b, nar_0, nar_1, nar_y, h100, p_state, md_len]) | (refine ⟨_, rfl, by omega, ?_⟩) | (refine ⟨fun h => absurd h (nI_nlt (by omega) (by omega)), fun _ => ?_⟩) | (refine ⟨fun _ => ?_, fun h => absurd h (nI_nlt (by omega) (by omega))⟩) | (refine ⟨fun h => absurd (nI_lt (by omega) (by omega)) h, fun _ => ?_⟩) | (refine ⟨fun _ => ?_, fun h => absurd (nI_lt (by omega) (by omega)) h⟩) | (refine ⟨fun h => absurd ((nI_eq (by omega) (by omega)).mp h) (by omega), fun _ => ?_⟩) | (refine ⟨fun _ => ?_, fun h => absurd ((nI_eq (by omega) (by omega)).mp h) (by omega)⟩) | (refine ⟨fun h => absurd h (by decide), fun _ => ?_⟩) | (refine ⟨fun _ => ?_, fun h => absurd h (by decide)⟩) | (refine ⟨fun h => absurd rfl h, fun _ => ?_⟩) | (refine ⟨fun _ => ?_, fun h => absurd rfl h⟩)))
    exact px_ireturn rfl (Or.inr ⟨rfl, Or.inl rfl⟩) (Nat.le_refl _) (Nat.le_refl _) hq
set_option maxRecDepth 100000 in
set_option maxHeartbeats 4000000 in
theorem c_N_make4 {may own : Bool} (ho : okS sn z n) (h : nX ph m0 m st) (hk : k < st.1) (hkn : st.2.1 k = n) (hY : mY m n) (h11 : m 11 = nI (dg n 22 9)) (hv : v < 6) (hmay : may = true → dg n 15 1 = 0) (hown : own = true → dg n 16 1 = 0) (hQ : ∀ m' ph', fr FM ph ph' → nX ph' m0 m' (ntL st k (sHo (sMv n (dg n 22 9 + 1)) v 3 :: ((if may = true then [sBr (sMv n (dg n 22 9 + 1)) v 1] else []) ++ if own = true then [sBr (sMv n (dg n 22 9 + 1)) v 2] else []))) → Q none ph') : px_Met G mX12_make (d + 1) 0 0 [.ref 100, .int (nI k), .int (nI v), .int (px_b may), .int (px_b own)] ph Q := by
  have hn := ho.1
  have hp32 := ho.2.1
  have hX := h
  obtain ⟨h100, -, ⟨hc, -⟩, F, C, s, sl, k136, -, -, v1, -⟩ := h
  have hF := (v1 k hk).1
  rw [hkn] at hF
  have e3 := mk_set (y := n) (v := v) (w := 3) hv (by omega) (by omega)
  have t1 := tk_1 v hv
  have hpp : dg n 22 9 + 1 < 64 := by omega
  refine px_start kX12_make (Nat.le_of_ble_eq_true rfl) ?_
  show px_W G _ _ _ _ _ 0 0 0 [some (.ref 100), some (.int (nI k)), some (.int (nI v)), some (.int (px_b may)), some (.int (px_b own)), none, none, none] [] ph
  (repeat (first | (refine px_st rfl rfl ?_; simp only [px_wp, px_at, px_set, px_set2, px_clr, px_ldi, px_ldl, px_lda, px_i1, px_i2, px_l1, px_l2, px_il, px_a1, px_r1, px_r2, px_ir, px_vir, px_g, px_v1, px_v2, px_gf, px_pf, px_ps, px_ar, px_nth, px_upd, px_zero, px_dfl, px_put_self, px_put_ne, px_sw, nI_add, pk_mul, true_and, and_true, Nat.reduceAdd, Nat.reduceLT, Nat.reduceEqDiff, List.length_cons, List.length_nil, true_or, or_true, List.set_set, ne_eq, not_false_eq_true, Fin.isValue, Fin.val_zero, Fin.val_one, Fin.val_two, reduceCtorEq, Option.map_some, List.length_set, Nat.zero_lt_succ, Option.toList_some, Option.toList_none, List.cons_append, List.nil_append, px_b_2, IA, LA, BA, ZA, QA, PT, DR, TL, MC, CD, CC, false_and, or_false, false_or, nar_b, nar_0, nar_1, nar_y, h100, g_shape, k136, g_place, h11]) | (refine ⟨_, rfl, by omega, ?_⟩) | (refine ⟨fun h => absurd h (nI_nlt (by omega) (by omega)), fun _ => ?_⟩) | (refine ⟨fun _ => ?_, fun h => absurd h (nI_nlt (by omega) (by omega))⟩) | (refine ⟨fun h => absurd (nI_lt (by omega) (by omega)) h, fun _ => ?_⟩) | (refine ⟨fun _ => ?_, fun h => absurd (nI_lt (by omega) (by omega)) h⟩) | (refine ⟨fun h => absurd ((nI_eq (by omega) (by omega)).mp h) (by omega), fun _ => ?_⟩) | (refine ⟨fun _ => ?_, fun h => absurd ((nI_eq (by omega) (by omega)).mp h) (by omega)⟩) | (refine ⟨fun h => absurd h (by decide), fun _ => ?_⟩) | (refine ⟨fun _ => ?_, fun h => absurd h (by decide)⟩) | (refine ⟨fun h => absurd rfl h, fun _ => ?_⟩) | (refine ⟨fun _ => ?_, fun h => absurd rfl h⟩)))
  rw [hF]
  (repeat (first | (refine px_st rfl rfl ?_; simp only [px_wp, px_at, px_set, px_set2, px_clr, px_ldi, px_ldl, px_lda, px_i1, px_i2, px_l1, px_l2, px_il, px_a1, px_r1, px_r2, px_ir, px_vir, px_g, px_v1, px_v2, px_gf, px_pf, px_ps, px_ar, px_nth, px_upd, px_zero, px_dfl, px_put_self, px_put_ne, px_sw, nI_add, pk_mul, true_and, and_true, Nat.reduceAdd, Nat.reduceLT, Nat.reduceEqDiff, List.length_cons, List.length_nil, true_or, or_true, List.set_set, ne_eq, not_false_eq_true, Fin.isValue, Fin.val_zero, Fin.val_one, Fin.val_two, reduceCtorEq, Option.map_some, List.length_set, Nat.zero_lt_succ, Option.toList_some, Option.toList_none, List.cons_append, List.nil_append, px_b_2, IA, LA, BA, ZA, QA, PT, DR, TL, MC, CD, CC, false_and, or_false, false_or, nar_b, nar_0, nar_1, nar_y, h100, g_place, h11]) | (refine ⟨_, rfl, by omega, ?_⟩) | (refine ⟨fun h => absurd h (nI_nlt (by omega) (by omega)), fun _ => ?_⟩) | (refine ⟨fun _ => ?_, fun h => absurd h (nI_nlt (by omega) (by omega))⟩) | (refine ⟨fun h => absurd (nI_lt (by omega) (by omega)) h, fun _ => ?_⟩) | (refine ⟨fun _ => ?_, fun h => absurd (nI_lt (by omega) (by omega)) h⟩) | (refine ⟨fun h => absurd ((nI_eq (by omega) (by omega)).mp h) (by omega), fun _ => ?_⟩) | (refine ⟨fun _ => ?_, fun h => absurd ((nI_eq (by omega) (by omega)).mp h) (by omega)⟩) | (refine ⟨fun h => absurd h (by decide), fun _ => ?_⟩) | (refine ⟨fun _ => ?_, fun h => absurd h (by decide)⟩) | (refine ⟨fun h => absurd rfl h, fun _ => ?_⟩) | (refine ⟨fun _ => ?_, fun h => absurd rfl h⟩)))
  refine px_cV rfl rfl kX12_take rfl (c_N_take (d := d) h100 hv hY (fun m1 hY1 hm1 => ?_)) (Nat.le_refl _) h100 rfl rfl rfl (Nat.le_of_ble_eq_true rfl) (Nat.zero_le _) (Nat.zero_le _)
  have hX1 := nX_m hX (fun i hi => hm1 i (by omega))
  have g100 := hX1.M
  have z12 := hY1.1
  (repeat (first | (refine px_st rfl rfl ?_; simp only [px_wp, px_at, px_set, px_set2, px_clr, px_ldi, px_ldl, px_lda, px_i1, px_i2, px_l1, px_l2, px_il, px_a1, px_r1, px_r2, px_ir, px_vir, px_g, px_v1, px_v2, px_gf, px_pf, px_ps, px_ar, px_nth, px_upd, px_zero, px_dfl, px_put_self, px_put_ne, px_sw, nI_add, pk_mul, true_and, and_true, Nat.reduceAdd, Nat.reduceLT, Nat.reduceEqDiff, List.length_cons, List.length_nil, true_or, or_true, List.set_set, ne_eq, not_false_eq_true, Fin.isValue, Fin.val_zero, Fin.val_one, Fin.val_two, reduceCtorEq, Option.map_some, List.length_set, Nat.zero_lt_succ, Option.toList_some, Option.toList_none, List.cons_append, List.nil_append, px_b_2, IA, LA, BA, ZA, QA, PT, DR, TL, MC, CD, CC, false_and, or_false, false_or, nar_b, nar_0, nar_1, nar_y, g100, g_others, z12, e3, p_others, md_len]) | (refine ⟨_, rfl, by omega, ?_⟩) | (refine ⟨fun h => absurd h (nI_nlt (by omega) (by omega)), fun _ => ?_⟩) | (refine ⟨fun _ => ?_, fun h => absurd h (nI_nlt (by omega) (by omega))⟩) | (refine ⟨fun h => absurd (nI_lt (by omega) (by omega)) h, fun _ => ?_⟩) | (refine ⟨fun _ => ?_, fun h => absurd (nI_lt (by omega) (by omega)) h⟩) | (refine ⟨fun h => absurd ((nI_eq (by omega) (by omega)).mp h) (by omega), fun _ => ?_⟩) | (refine ⟨fun _ => ?_, fun h => absurd ((nI_eq (by omega) (by omega)).mp h) (by omega)⟩) | (refine ⟨fun h => absurd h (by decide), fun _ => ?_⟩) | (refine ⟨fun _ => ?_, fun h => absurd h (by decide)⟩) | (refine ⟨fun h => absurd rfl h, fun _ => ?_⟩) | (refine ⟨fun _ => ?_, fun h => absurd rfl h⟩)))
  have hX2 := nX_m (m' := upd m1 12 (nI (mkW (sHo n v 3) 3))) hX1 (fun i hi => up_ne (by omega))
  have hY2 : mY (upd m1 12 (nI (mkW (sHo n v 3) 3))) (sHo n v 3) := mY_3 hv hY1 rfl (fun i h1 h2 => up_ne (by omega))
  rw [List.set_set] at hX2
  have hb2 : sHo n v 3 < 2 ^ 31 := by
    have : sHo n v 3 < 2 ^ 28 := rp_b hn (by omega) (by omega)
    omega
  refine px_cV rfl rfl kX12_note rfl (c_N_note (d := d) (k := k) hX2 hY2 hb2 hpp (fun m3 ph3 hf3 hm3 hX3 => ?_)) (Nat.le_refl _) hX2.M rfl rfl rfl (Nat.le_of_ble_eq_true rfl) (Nat.zero_le _) (Nat.zero_le _)
  rw [mv_ho hv (by omega) (by omega)] at hX3
  have hf3' : fr FM ph ph3 := fr_tr (fm_set fr_id rfl) hf3
  -- the likely one
  have own1 : ∀ (m4 : Nat → Int32) (ph4 : List px_E) (st4 : NS), fr FM ph ph4 → nX ph4 m0 m4 st4 → (∀ m' ph', fr FM ph ph' → nX ph' m0 m' (ntL st4 k (if own = true then [sBr (sMv n (dg n 22 9 + 1)) v 2] else [])) → Q none ph') → px_W G mX12_make (d + 1) 0 0 Q 0 0 84 [some (.ref 100), some (.int (nI k)), some (.int (nI v)), some (.int (px_b may)), some (.int (px_b own)), some (.long (lN (TS n))), none, some (.int (nI (dg n 22 9 + 1)))] [] ph4 := by
    intro m4 ph4 st4 hf4 hX4 hq
    cases own with
    | false =>
      have hq2 := hq m4 ph4 hf4 hX4
      (repeat (first | (refine px_st rfl rfl ?_; simp only [px_wp, px_at, px_set, px_set2, px_clr, px_ldi, px_ldl, px_lda, px_i1, px_i2, px_l1, px_l2, px_il, px_a1, px_r1, px_r2, px_ir, px_vir, px_g, px_v1, px_v2, px_gf, px_pf, px_ps, px_ar, px_nth, px_upd, px_zero, px_dfl, px_put_self, px_put_ne, px_sw, nI_add, pk_mul, true_and, and_true, Nat.reduceAdd, Nat.reduceLT, Nat.reduceEqDiff, List.length_cons, List.length_nil, true_or, or_true, List.set_set, ne_eq, not_false_eq_true, Fin.isValue, Fin.val_zero, Fin.val_one, Fin.val_two, reduceCtorEq, Option.map_some, List.length_set, Nat.zero_lt_succ, Option.toList_some, Option.toList_none, List.cons_append, List.nil_append, px_b_2, IA, LA, BA, ZA, QA, PT, DR, TL, MC, CD, CC, false_and, or_false, false_or, nar_b, nar_0, nar_1, nar_y]) | (refine ⟨_, rfl, by omega, ?_⟩) | (refine ⟨fun h => absurd h (nI_nlt (by omega) (by omega)), fun _ => ?_⟩) | (refine ⟨fun _ => ?_, fun h => absurd h (nI_nlt (by omega) (by omega))⟩) | (refine ⟨fun h => absurd (nI_lt (by omega) (by omega)) h, fun _ => ?_⟩) | (refine ⟨fun _ => ?_, fun h => absurd (nI_lt (by omega) (by omega)) h⟩) | (refine ⟨fun h => absurd ((nI_eq (by omega) (by omega)).mp h) (by omega), fun _ => ?_⟩) | (refine ⟨fun _ => ?_, fun h => absurd ((nI_eq (by omega) (by omega)).mp h) (by omega)⟩) | (refine ⟨fun h => absurd h (by decide), fun _ => ?_⟩) | (refine ⟨fun _ => ?_, fun h => absurd h (by decide)⟩) | (refine ⟨fun h => absurd rfl h, fun _ => ?_⟩) | (refine ⟨fun _ => ?_, fun h => absurd rfl h⟩)))
      exact px_return rfl rfl (Nat.le_refl _) (Nat.le_refl _) hq2
    | true =>
      rw [if_pos rfl] at hq
      (repeat (first | (refine px_st rfl rfl ?_; simp only [px_wp, px_at, px_set, px_set2, px_clr, px_ldi, px_ldl, px_lda, px_i1, px_i2, px_l1, px_l2, px_il, px_a1, px_r1, px_r2, px_ir, px_vir, px_g, px_v1, px_v2, px_gf, px_pf, px_ps, px_ar, px_nth, px_upd, px_zero, px_dfl, px_put_self, px_put_ne, px_sw, nI_add, pk_mul, true_and, and_true, Nat.reduceAdd, Nat.reduceLT, Nat.reduceEqDiff, List.length_cons, List.length_nil, true_or, or_true, List.set_set, ne_eq, not_false_eq_true, Fin.isValue, Fin.val_zero, Fin.val_one, Fin.val_two, reduceCtorEq, Option.map_some, List.length_set, Nat.zero_lt_succ, Option.toList_some, Option.toList_none, List.cons_append, List.nil_append, px_b_2, IA, LA, BA, ZA, QA, PT, DR, TL, MC, CD, CC, false_and, or_false, false_or, nar_b, nar_0, nar_1, nar_y]) | (refine ⟨_, rfl, by omega, ?_⟩) | (refine ⟨fun h => absurd h (nI_nlt (by omega) (by omega)), fun _ => ?_⟩) | (refine ⟨fun _ => ?_, fun h => absurd h (nI_nlt (by omega) (by omega))⟩) | (refine ⟨fun h => absurd (nI_lt (by omega) (by omega)) h, fun _ => ?_⟩) | (refine ⟨fun _ => ?_, fun h => absurd (nI_lt (by omega) (by omega)) h⟩) | (refine ⟨fun h => absurd ((nI_eq (by omega) (by omega)).mp h) (by omega), fun _ => ?_⟩) | (refine ⟨fun _ => ?_, fun h => absurd ((nI_eq (by omega) (by omega)).mp h) (by omega)⟩) | (refine ⟨fun h => absurd h (by decide), fun _ => ?_⟩) | (refine ⟨fun _ => ?_, fun h => absurd h (by decide)⟩) | (refine ⟨fun h => absurd rfl h, fun _ => ?_⟩) | (refine ⟨fun _ => ?_, fun h => absurd rfl h⟩)))
      refine px_cV rfl rfl kX12_load rfl (c_N_load (d := d) (y := n) hX4.M hn (fun m5 hY5 h511 hm5 => ?_)) (Nat.le_refl _) hX4.M rfl rfl rfl (Nat.le_of_ble_eq_true rfl) (Nat.zero_le _) (Nat.zero_le _)
      have hX5 := nX_m hX4 (fun i hi => hm5 i hi)
      (repeat (first | (refine px_st rfl rfl ?_; simp only [px_wp, px_at, px_set, px_set2, px_clr, px_ldi, px_ldl, px_lda, px_i1, px_i2, px_l1, px_l2, px_il, px_a1, px_r1, px_r2, px_ir, px_vir, px_g, px_v1, px_v2, px_gf, px_pf, px_ps, px_ar, px_nth, px_upd, px_zero, px_dfl, px_put_self, px_put_ne, px_sw, nI_add, pk_mul, true_and, and_true, Nat.reduceAdd, Nat.reduceLT, Nat.reduceEqDiff, List.length_cons, List.length_nil, true_or, or_true, List.set_set, ne_eq, not_false_eq_true, Fin.isValue, Fin.val_zero, Fin.val_one, Fin.val_two, reduceCtorEq, Option.map_some, List.length_set, Nat.zero_lt_succ, Option.toList_some, Option.toList_none, List.cons_append, List.nil_append, px_b_2, IA, LA, BA, ZA, QA, PT, DR, TL, MC, CD, CC, false_and, or_false, false_or, nar_b, nar_0, nar_1, nar_y]) | (refine ⟨_, rfl, by omega, ?_⟩) | (refine ⟨fun h => absurd h (nI_nlt (by omega) (by omega)), fun _ => ?_⟩) | (refine ⟨fun _ => ?_, fun h => absurd h (nI_nlt (by omega) (by omega))⟩) | (refine ⟨fun h => absurd (nI_lt (by omega) (by omega)) h, fun _ => ?_⟩) | (refine ⟨fun _ => ?_, fun h => absurd (nI_lt (by omega) (by omega)) h⟩) | (refine ⟨fun h => absurd ((nI_eq (by omega) (by omega)).mp h) (by omega), fun _ => ?_⟩) | (refine ⟨fun _ => ?_, fun h => absurd ((nI_eq (by omega) (by omega)).mp h) (by omega)⟩) | (refine ⟨fun h => absurd h (by decide), fun _ => ?_⟩) | (refine ⟨fun _ => ?_, fun h => absurd h (by decide)⟩) | (refine ⟨fun h => absurd rfl h, fun _ => ?_⟩) | (refine ⟨fun _ => ?_, fun h => absurd rfl h⟩)))
      refine px_cV rfl rfl kX12_take rfl (c_N_take (d := d) hX5.M hv hY5 (fun m6 hY6 hm6 => ?_)) (Nat.le_refl _) hX5.M rfl rfl rfl (Nat.le_of_ble_eq_true rfl) (Nat.zero_le _) (Nat.zero_le _)
      have hX6 := nX_m hX5 (fun i hi => hm6 i (by omega))
      have g6 := hX4.M
      (repeat (first | (refine px_st rfl rfl ?_; simp only [px_wp, px_at, px_set, px_set2, px_clr, px_ldi, px_ldl, px_lda, px_i1, px_i2, px_l1, px_l2, px_il, px_a1, px_r1, px_r2, px_ir, px_vir, px_g, px_v1, px_v2, px_gf, px_pf, px_ps, px_ar, px_nth, px_upd, px_zero, px_dfl, px_put_self, px_put_ne, px_sw, nI_add, pk_mul, true_and, and_true, Nat.reduceAdd, Nat.reduceLT, Nat.reduceEqDiff, List.length_cons, List.length_nil, true_or, or_true, List.set_set, ne_eq, not_false_eq_true, Fin.isValue, Fin.val_zero, Fin.val_one, Fin.val_two, reduceCtorEq, Option.map_some, List.length_set, Nat.zero_lt_succ, Option.toList_some, Option.toList_none, List.cons_append, List.nil_append, px_b_2, IA, LA, BA, ZA, QA, PT, DR, TL, MC, CD, CC, false_and, or_false, false_or, nar_b, nar_0, nar_1, nar_y, g6, p_likely, p_owner, p_ownerBag, md_len, t1]) | (refine ⟨_, rfl, by omega, ?_⟩) | (refine ⟨fun h => absurd h (nI_nlt (by omega) (by omega)), fun _ => ?_⟩) | (refine ⟨fun _ => ?_, fun h => absurd h (nI_nlt (by omega) (by omega))⟩) | (refine ⟨fun h => absurd (nI_lt (by omega) (by omega)) h, fun _ => ?_⟩) | (refine ⟨fun _ => ?_, fun h => absurd (nI_lt (by omega) (by omega)) h⟩) | (refine ⟨fun h => absurd ((nI_eq (by omega) (by omega)).mp h) (by omega), fun _ => ?_⟩) | (refine ⟨fun _ => ?_, fun h => absurd ((nI_eq (by omega) (by omega)).mp h) (by omega)⟩) | (refine ⟨fun h => absurd h (by decide), fun _ => ?_⟩) | (refine ⟨fun _ => ?_, fun h => absurd h (by decide)⟩) | (refine ⟨fun h => absurd rfl h, fun _ => ?_⟩) | (refine ⟨fun _ => ?_, fun h => absurd rfl h⟩)))
      have hX7 := nX_m (m' := upd (upd (upd m6 18 (nI 1)) 19 (nI (2 ^ v))) 20 (nI 0)) hX6 (fun i hi => by rw [up_ne (by omega), up_ne (by omega), up_ne (by omega)])
      have hY7 : mY (upd (upd (upd m6 18 (nI 1)) 19 (nI (2 ^ v))) 20 (nI 0)) (sBr n v 2) := mY_br2 ho (hown rfl) hv hY6 rfl rfl rfl (fun i h1 h2 => by rw [up_ne (by omega), up_ne (by omega), up_ne (by omega)])
      simp only [List.set_set] at hX7
      have hb7 : sBr n v 2 < 2 ^ 31 := by
        have h1 : rp n (14 + 2) 1 1 < 2 ^ 28 := rp_b hn (by omega) (by omega)
        have : sHo (rp n (14 + 2) 1 1) v 2 < 2 ^ 28 := rp_b h1 (by omega) (by omega)
        have : sBr n v 2 < 2 ^ 28 := this
        omega
      refine px_cV rfl rfl kX12_note rfl (c_N_note (d := d) (k := k) hX7 hY7 hb7 hpp (fun m8 ph8 hf8 hm8 hX8 => ?_)) (Nat.le_refl _) hX7.M rfl rfl rfl (Nat.le_of_ble_eq_true rfl) (Nat.zero_le _) (Nat.zero_le _)
      rw [mv_br hv (Or.inr rfl) (by omega)] at hX8
      exact px_return rfl rfl (Nat.le_refl _) (Nat.le_refl _) (hq m8 ph8 (fr_tr (fr_tr hf4 (fm_set fr_id rfl)) hf8) hX8)
  cases may with
  | false =>
    rw [if_neg (by simp), List.nil_append] at hQ
    have hr := own1 m3 ph3 _ hf3' hX3 hQ
    (repeat (first | (exact hr) | (refine px_st rfl rfl ?_; simp only [px_wp, px_at, px_set, px_set2, px_clr, px_ldi, px_ldl, px_lda, px_i1, px_i2, px_l1, px_l2, px_il, px_a1, px_r1, px_r2, px_ir, px_vir, px_g, px_v1, px_v2, px_gf, px_pf, px_ps, px_ar, px_nth, px_upd, px_zero, px_dfl, px_put_self, px_put_ne, px_sw, nI_add, pk_mul, true_and, and_true, Nat.reduceAdd, Nat.reduceLT, Nat.reduceEqDiff, List.length_cons, List.length_nil, true_or, or_true, List.set_set, ne_eq, not_false_eq_true, Fin.isValue, Fin.val_zero, Fin.val_one, Fin.val_two, reduceCtorEq, Option.map_some, List.length_set, Nat.zero_lt_succ, Option.toList_some, Option.toList_none, List.cons_append, List.nil_append, px_b_2, IA, LA, BA, ZA, QA, PT, DR, TL, MC, CD, CC, false_and, or_false, false_or, nar_b, nar_0, nar_1, nar_y]) | (refine ⟨_, rfl, by omega, ?_⟩) | (refine ⟨fun h => absurd h (nI_nlt (by omega) (by omega)), fun _ => ?_⟩) | (refine ⟨fun _ => ?_, fun h => absurd h (nI_nlt (by omega) (by omega))⟩) | (refine ⟨fun h => absurd (nI_lt (by omega) (by omega)) h, fun _ => ?_⟩) | (refine ⟨fun _ => ?_, fun h => absurd (nI_lt (by omega) (by omega)) h⟩) | (refine ⟨fun h => absurd ((nI_eq (by omega) (by omega)).mp h) (by omega), fun _ => ?_⟩) | (refine ⟨fun _ => ?_, fun h => absurd ((nI_eq (by omega) (by omega)).mp h) (by omega)⟩) | (refine ⟨fun h => absurd h (by decide), fun _ => ?_⟩) | (refine ⟨fun _ => ?_, fun h => absurd h (by decide)⟩) | (refine ⟨fun h => absurd rfl h, fun _ => ?_⟩) | (refine ⟨fun _ => ?_, fun h => absurd rfl h⟩)))
  | true =>
    rw [if_pos rfl] at hQ
    (repeat (first | (refine px_st rfl rfl ?_; simp only [px_wp, px_at, px_set, px_set2, px_clr, px_ldi, px_ldl, px_lda, px_i1, px_i2, px_l1, px_l2, px_il, px_a1, px_r1, px_r2, px_ir, px_vir, px_g, px_v1, px_v2, px_gf, px_pf, px_ps, px_ar, px_nth, px_upd, px_zero, px_dfl, px_put_self, px_put_ne, px_sw, nI_add, pk_mul, true_and, and_true, Nat.reduceAdd, Nat.reduceLT, Nat.reduceEqDiff, List.length_cons, List.length_nil, true_or, or_true, List.set_set, ne_eq, not_false_eq_true, Fin.isValue, Fin.val_zero, Fin.val_one, Fin.val_two, reduceCtorEq, Option.map_some, List.length_set, Nat.zero_lt_succ, Option.toList_some, Option.toList_none, List.cons_append, List.nil_append, px_b_2, IA, LA, BA, ZA, QA, PT, DR, TL, MC, CD, CC, false_and, or_false, false_or, nar_b, nar_0, nar_1, nar_y]) | (refine ⟨_, rfl, by omega, ?_⟩) | (refine ⟨fun h => absurd h (nI_nlt (by omega) (by omega)), fun _ => ?_⟩) | (refine ⟨fun _ => ?_, fun h => absurd h (nI_nlt (by omega) (by omega))⟩) | (refine ⟨fun h => absurd (nI_lt (by omega) (by omega)) h, fun _ => ?_⟩) | (refine ⟨fun _ => ?_, fun h => absurd (nI_lt (by omega) (by omega)) h⟩) | (refine ⟨fun h => absurd ((nI_eq (by omega) (by omega)).mp h) (by omega), fun _ => ?_⟩) | (refine ⟨fun _ => ?_, fun h => absurd ((nI_eq (by omega) (by omega)).mp h) (by omega)⟩) | (refine ⟨fun h => absurd h (by decide), fun _ => ?_⟩) | (refine ⟨fun _ => ?_, fun h => absurd h (by decide)⟩) | (refine ⟨fun h => absurd rfl h, fun _ => ?_⟩) | (refine ⟨fun _ => ?_, fun h => absurd rfl h⟩)))
    refine px_cV rfl rfl kX12_load rfl (c_N_load (d := d) (y := n) hX3.M hn (fun m5 hY5 h511 hm5 => ?_)) (Nat.le_refl _) hX3.M rfl rfl rfl (Nat.le_of_ble_eq_true rfl) (Nat.zero_le _) (Nat.zero_le _)
    have hX5 := nX_m hX3 (fun i hi => hm5 i hi)
    (repeat (first | (refine px_st rfl rfl ?_; simp only [px_wp, px_at, px_set, px_set2, px_clr, px_ldi, px_ldl, px_lda, px_i1, px_i2, px_l1, px_l2, px_il, px_a1, px_r1, px_r2, px_ir, px_vir, px_g, px_v1, px_v2, px_gf, px_pf, px_ps, px_ar, px_nth, px_upd, px_zero, px_dfl, px_put_self, px_put_ne, px_sw, nI_add, pk_mul, true_and, and_true, Nat.reduceAdd, Nat.reduceLT, Nat.reduceEqDiff, List.length_cons, List.length_nil, true_or, or_true, List.set_set, ne_eq, not_false_eq_true, Fin.isValue, Fin.val_zero, Fin.val_one, Fin.val_two, reduceCtorEq, Option.map_some, List.length_set, Nat.zero_lt_succ, Option.toList_some, Option.toList_none, List.cons_append, List.nil_append, px_b_2, IA, LA, BA, ZA, QA, PT, DR, TL, MC, CD, CC, false_and, or_false, false_or, nar_b, nar_0, nar_1, nar_y]) | (refine ⟨_, rfl, by omega, ?_⟩) | (refine ⟨fun h => absurd h (nI_nlt (by omega) (by omega)), fun _ => ?_⟩) | (refine ⟨fun _ => ?_, fun h => absurd h (nI_nlt (by omega) (by omega))⟩) | (refine ⟨fun h => absurd (nI_lt (by omega) (by omega)) h, fun _ => ?_⟩) | (refine ⟨fun _ => ?_, fun h => absurd (nI_lt (by omega) (by omega)) h⟩) | (refine ⟨fun h => absurd ((nI_eq (by omega) (by omega)).mp h) (by omega), fun _ => ?_⟩) | (refine ⟨fun _ => ?_, fun h => absurd ((nI_eq (by omega) (by omega)).mp h) (by omega)⟩) | (refine ⟨fun h => absurd h (by decide), fun _ => ?_⟩) | (refine ⟨fun _ => ?_, fun h => absurd h (by decide)⟩) | (refine ⟨fun h => absurd rfl h, fun _ => ?_⟩) | (refine ⟨fun _ => ?_, fun h => absurd rfl h⟩)))
    refine px_cV rfl rfl kX12_take rfl (c_N_take (d := d) hX5.M hv hY5 (fun m6 hY6 hm6 => ?_)) (Nat.le_refl _) hX5.M rfl rfl rfl (Nat.le_of_ble_eq_true rfl) (Nat.zero_le _) (Nat.zero_le _)
    have hX6 := nX_m hX5 (fun i hi => hm6 i (by omega))
    have g6 := hX3.M
    (repeat (first | (refine px_st rfl rfl ?_; simp only [px_wp, px_at, px_set, px_set2, px_clr, px_ldi, px_ldl, px_lda, px_i1, px_i2, px_l1, px_l2, px_il, px_a1, px_r1, px_r2, px_ir, px_vir, px_g, px_v1, px_v2, px_gf, px_pf, px_ps, px_ar, px_nth, px_upd, px_zero, px_dfl, px_put_self, px_put_ne, px_sw, nI_add, pk_mul, true_and, and_true, Nat.reduceAdd, Nat.reduceLT, Nat.reduceEqDiff, List.length_cons, List.length_nil, true_or, or_true, List.set_set, ne_eq, not_false_eq_true, Fin.isValue, Fin.val_zero, Fin.val_one, Fin.val_two, reduceCtorEq, Option.map_some, List.length_set, Nat.zero_lt_succ, Option.toList_some, Option.toList_none, List.cons_append, List.nil_append, px_b_2, IA, LA, BA, ZA, QA, PT, DR, TL, MC, CD, CC, false_and, or_false, false_or, nar_b, nar_0, nar_1, nar_y, g6, p_chosen, p_state, p_own, p_ownBag, md_len, t1]) | (refine ⟨_, rfl, by omega, ?_⟩) | (refine ⟨fun h => absurd h (nI_nlt (by omega) (by omega)), fun _ => ?_⟩) | (refine ⟨fun _ => ?_, fun h => absurd h (nI_nlt (by omega) (by omega))⟩) | (refine ⟨fun h => absurd (nI_lt (by omega) (by omega)) h, fun _ => ?_⟩) | (refine ⟨fun _ => ?_, fun h => absurd (nI_lt (by omega) (by omega)) h⟩) | (refine ⟨fun h => absurd ((nI_eq (by omega) (by omega)).mp h) (by omega), fun _ => ?_⟩) | (refine ⟨fun _ => ?_, fun h => absurd ((nI_eq (by omega) (by omega)).mp h) (by omega)⟩) | (refine ⟨fun h => absurd h (by decide), fun _ => ?_⟩) | (refine ⟨fun _ => ?_, fun h => absurd h (by decide)⟩) | (refine ⟨fun h => absurd rfl h, fun _ => ?_⟩) | (refine ⟨fun _ => ?_, fun h => absurd rfl h⟩)))
    have hX7 := nX_m (m' := upd (upd (upd (upd m6 14 (nI 1)) 15 (nI 0)) 16 (nI (2 ^ v))) 17 (nI 0)) hX6 (fun i hi => by rw [up_ne (by omega), up_ne (by omega), up_ne (by omega), up_ne (by omega)])
    have hY7 : mY (upd (upd (upd (upd m6 14 (nI 1)) 15 (nI 0)) 16 (nI (2 ^ v))) 17 (nI 0)) (sBr n v 1) := mY_br1 ho (hmay rfl) hv hY6 rfl rfl rfl rfl (fun i h1 => by rw [up_ne (by omega), up_ne (by omega), up_ne (by omega), up_ne (by omega)])
    simp only [List.set_set] at hX7
    have hb7 : sBr n v 1 < 2 ^ 31 := by
      have h1 : rp n (14 + 1) 1 1 < 2 ^ 28 := rp_b hn (by omega) (by omega)
      have : sHo (rp n (14 + 1) 1 1) v 1 < 2 ^ 28 := rp_b h1 (by omega) (by omega)
      have : sBr n v 1 < 2 ^ 28 := this
      omega
    refine px_cV rfl rfl kX12_note rfl (c_N_note (d := d) (k := k) hX7 hY7 hb7 hpp (fun m8 ph8 hf8 hm8 hX8 => ?_)) (Nat.le_refl _) hX7.M rfl rfl rfl (Nat.le_of_ble_eq_true rfl) (Nat.zero_le _) (Nat.zero_le _)
    rw [mv_br hv (Or.inl rfl) (by omega)] at hX8
    exact own1 m8 ph8 _ (fr_tr (fr_tr hf3' (fm_set fr_id rfl)) hf8) hX8 hQ
end MKE
