/-! the Model notes a shape -/
abbrev NS := Nat × (Nat → Nat) × (Nat → Nat) × Bool
def ntS (st : NS) (k x : Nat) : NS := if (mtB st.2.1 st.1 x || st.2.2.2) = true then st else if st.1 = 3000 then (st.1, st.2.1, st.2.2.1, true) else (st.1 + 1, va_up st.2.1 st.1 x, va_up st.2.2.1 st.1 k, st.2.2.2)
def ntL (st : NS) (k : Nat) (L : List Nat) : NS := L.foldl (fun s x => ntS s k x) st
def hsM (x : Nat) : Nat := uN (lN (TS x) * lN 11400714819323198485) / 2 ^ 51
theorem hsM_lt (x : Nat) : hsM x < 8192 := by
  unfold hsM
  have := uN_lt (lN (TS x) * lN 11400714819323198485)
  omega
theorem uN_lN {h : Nat} (hh : h < 2 ^ 64) : uN (lN h) = h := wb_tn hh
theorem hsM_u (x : Nat) : ((lN (TS x) * lN 11400714819323198485).toUInt64 >>> ((nI 51).toInt64.toUInt64 &&& Int64.toUInt64 63)).toInt64 = lN (hsM x) := by
  apply uN_inj
  have := hsM_lt x
  rw [uN_sk _ (by omega), uN_lN (by omega)]
  rfl
/-- the Model in its search -/
def nX (ph : List px_E) (m0 m : Nat → Int32) (st : NS) : Prop := ph[100]? = some (MD m) ∧ (m 8 = px_b st.2.2.2 ∧ m 9 = nI st.1 ∧ ∀ i, i < 8 ∨ i = 10 ∨ 20 < i → m i = m0 i) ∧ (st.1 ≤ 3000 ∧ ∀ i, i < st.1 → st.2.1 i < 2 ^ 28) ∧ ∃ (F : Nat → Int64) (C s : Nat → Int32) (sl : Nat → Nat), ph[136]? = some (LA 3001 F) ∧ ph[138]? = some (IA 3001 C) ∧ ph[139]? = some (IA 8192 s) ∧ (∀ i, i < st.1 → F i = lN (TS (st.2.1 i)) ∧ C i = nI (st.2.2.1 i)) ∧ (∀ q, q < 8192 → s q = nI (sl q)) ∧ HT 8192 hsM st.1 st.2.1 sl
def FM : Nat → px_E → Prop := fun k _ => decide (k = 100 ∨ k = 136 ∨ k = 138 ∨ k = 139) = false
theorem fm_set {ph ph' : List px_E} {k : Nat} {x : px_E} (h : fr FM ph ph') (hk : decide (k = 100 ∨ k = 136 ∨ k = 138 ∨ k = 139) = true) : fr FM ph (ph'.set k x) := fun j e p q => by
  have hne : ¬ k = j := fun z => by
    subst z
    have p : decide (k = 100 ∨ k = 136 ∨ k = 138 ∨ k = 139) = false := p
    rw [hk] at p
    cases p
  rw [px_put_ne hne]
  exact h j e p q
theorem mY_of {m m' : Nat → Int32} {y : Nat} (h : mY m y) (he : ∀ i, 12 ≤ i → i ≤ 20 → m' i = m i) : mY m' y := by
  obtain ⟨y2, y3, y4, y5, y6, y7, y8, y9, y10⟩ := h
  exact ⟨(he _ (by omega) (by omega)).trans y2, (he _ (by omega) (by omega)).trans y3, (he _ (by omega) (by omega)).trans y4, (he _ (by omega) (by omega)).trans y5, (he _ (by omega) (by omega)).trans y6, (he _ (by omega) (by omega)).trans y7, (he _ (by omega) (by omega)).trans y8, (he _ (by omega) (by omega)).trans y9, (he _ (by omega) (by omega)).trans y10⟩
/-- the numbers alone change -/
theorem nX_m {ph : List px_E} {m0 m m' : Nat → Int32} {st : NS} (h : nX ph m0 m st) (he : ∀ i, i < 11 ∨ 20 < i → m' i = m i) : nX (ph.set 100 (MD m')) m0 m' st := by
  obtain ⟨h1, ⟨h2, h3, h4⟩, h5, F, C, s, sl, k1, k2, k3, k4⟩ := h
  exact ⟨px_put_self.trans (by rw [h1]; rfl), ⟨(he 8 (by omega)).trans h2, (he 9 (by omega)).trans h3, fun i hi => (he i (by omega)).trans (h4 i hi)⟩, h5, F, C, s, sl, (px_put_ne (by decide)).trans k1, (px_put_ne (by decide)).trans k2, (px_put_ne (by decide)).trans k3, k4⟩
section NTE
variable {G : px_G} {ph : List px_E} {d : Nat} {Q : Option Value → List px_E → Prop} {m0 m : Nat → Int32} {y v k p : Nat} {st : NS}
set_option maxRecDepth 100000 in
set_option maxHeartbeats 4000000 in
theorem c_N_note (h : nX ph m0 m st) (hY : mY m y) (hy : y < 2 ^ 31) (hp : p < 64) (hQ : ∀ m' ph', fr FM ph ph' → (∀ i, 11 ≤ i → i ≤ 20 → m' i = m i) → nX ph' m0 m' (ntS st k (sMv y p)) → Q none ph') : px_Met G mX12_note d 0 0 [.ref 100, .int (nI k), .int (nI p)] ph Q := by
  have hX := h
  obtain ⟨c, sh, cf, tm⟩ := st
  obtain ⟨h100, ⟨n8, n9, n0⟩, ⟨hc, hsh⟩, F, C, s, sl, k136, k138, k139, v1, v2, hH⟩ := h
  have n8 : m 8 = px_b tm := n8
  have n9 : m 9 = nI c := n9
  have hc : c ≤ 3000 := hc
  have hsh : ∀ i, i < c → sh i < 2 ^ 28 := hsh
  have hH : HT 8192 hsM c sh sl := hH
  have v1 : ∀ i, i < c → F i = lN (TS (sh i)) ∧ C i = nI (cf i) := v1
  obtain ⟨y2, y3, y4, y5, y6, y7, y8, y9, y10⟩ := hY
  obtain ⟨x, hx⟩ : ∃ x, sMv y p = x := ⟨_, rfl⟩
  rw [hx] at hQ
  have hx28 : x < 2 ^ 28 := by rw [← hx]; exact sMv_b hy hp
  have hTx : TS x = TY' y p := by rw [← hx]; exact TS_mv (by omega)
  have hT34 : TS x < 2 ^ 34 := by rw [hTx]; exact TY_lt hp
  have w3 := mkW_lt y 3
  have w1 := mkW_lt y 1
  have w2 := mkW_lt y 2
  have q14 := dg_lt y 14 1
  have q15 := dg_lt y 15 1
  have q17 := dg_lt y 17 5
  have q12 := dg_lt y 12 1
  have q16 := dg_lt y 16 1
  have q13 := dg_lt y 13 1
  have i0 : (nI p).toInt64 = lN p := nI_l (by omega)
  have i1 : (nI (mkW y 3)).toInt64 = lN (mkW y 3) := nI_l (by omega)
  have i2 : (nI (dg y 14 1)).toInt64 = lN (dg y 14 1) := nI_l (by omega)
  have i3 : (nI (dg y 15 1)).toInt64 = lN (dg y 15 1) := nI_l (by omega)
  have i4 : (nI (dg y 17 5)).toInt64 = lN (dg y 17 5) := nI_l (by omega)
  have i5 : (nI (mkW y 1)).toInt64 = lN (mkW y 1) := nI_l (by omega)
  have i6 : (nI (dg y 12 1)).toInt64 = lN (dg y 12 1) := nI_l (by omega)
  have i7 : (nI (dg y 16 1)).toInt64 = lN (dg y 16 1) := nI_l (by omega)
  have i8 : (nI (mkW y 2)).toInt64 = lN (mkW y 2) := nI_l (by omega)
  have i9 : (nI (dg y 13 1)).toInt64 = lN (dg y 13 1) := nI_l (by omega)
  have o : ∀ a b j, j < 64 → a < 2 ^ j → a + b * 2 ^ j < 2 ^ 64 → lN a ||| (lN b <<< ((nI j).toInt64 &&& 63)) = lN (a + b * 2 ^ j) := fun a b j hj ha hb => by rw [wb_shl b hj, g_or' rfl ha hb]
  have o1 := o p (mkW y 3) 6 (by omega) (by omega) (by omega)
  have o2 := o (p + mkW y 3 * 2 ^ 6) (dg y 14 1) 12 (by omega) (by omega) (by omega)
  have o3 := o (p + mkW y 3 * 2 ^ 6 + dg y 14 1 * 2 ^ 12) (dg y 15 1) 13 (by omega) (by omega) (by omega)
  have o4 := o (p + mkW y 3 * 2 ^ 6 + dg y 14 1 * 2 ^ 12 + dg y 15 1 * 2 ^ 13) (dg y 17 5) 14 (by omega) (by omega) (by omega)
  have o5 := o (p + mkW y 3 * 2 ^ 6 + dg y 14 1 * 2 ^ 12 + dg y 15 1 * 2 ^ 13 + dg y 17 5 * 2 ^ 14) (mkW y 1) 19 (by omega) (by omega) (by omega)
  have o6 := o (p + mkW y 3 * 2 ^ 6 + dg y 14 1 * 2 ^ 12 + dg y 15 1 * 2 ^ 13 + dg y 17 5 * 2 ^ 14 + mkW y 1 * 2 ^ 19) (dg y 12 1) 25 (by omega) (by omega) (by omega)
  have o7 := o (p + mkW y 3 * 2 ^ 6 + dg y 14 1 * 2 ^ 12 + dg y 15 1 * 2 ^ 13 + dg y 17 5 * 2 ^ 14 + mkW y 1 * 2 ^ 19 + dg y 12 1 * 2 ^ 25) (dg y 16 1) 26 (by omega) (by omega) (by omega)
  have o8 := o (p + mkW y 3 * 2 ^ 6 + dg y 14 1 * 2 ^ 12 + dg y 15 1 * 2 ^ 13 + dg y 17 5 * 2 ^ 14 + mkW y 1 * 2 ^ 19 + dg y 12 1 * 2 ^ 25 + dg y 16 1 * 2 ^ 26) (mkW y 2) 27 (by omega) (by omega) (by omega)
  have o9 := o (p + mkW y 3 * 2 ^ 6 + dg y 14 1 * 2 ^ 12 + dg y 15 1 * 2 ^ 13 + dg y 17 5 * 2 ^ 14 + mkW y 1 * 2 ^ 19 + dg y 12 1 * 2 ^ 25 + dg y 16 1 * 2 ^ 26 + mkW y 2 * 2 ^ 27) (dg y 13 1) 33 (by omega) (by omega) (by omega)
  have eT : p + mkW y 3 * 2 ^ 6 + dg y 14 1 * 2 ^ 12 + dg y 15 1 * 2 ^ 13 + dg y 17 5 * 2 ^ 14 + mkW y 1 * 2 ^ 19 + dg y 12 1 * 2 ^ 25 + dg y 16 1 * 2 ^ 26 + mkW y 2 * 2 ^ 27 + dg y 13 1 * 2 ^ 33 = TS x := by rw [hTx]; rfl
  rw [eT] at o9
  have hu := hsM_u x
  have hhl := hsM_lt x
  obtain ⟨t0, ht0, hz⟩ := HT_free hH (by omega) x
  -- the shape isn't there yet
  have free : ∀ t, t < 8192 → (∀ t', t' < t → ¬ sl ((hsM x + t') % 8192) = 0) → (∀ j, j < c → ¬ sh j = x) → sl ((hsM x + t) % 8192) = 0 → px_W G mX12_note d 0 0 Q 0 0 137 [some (.ref 100), some (.int (nI k)), some (.int (nI p)), some (.long (lN (TS x))), none, some (.int (nI ((hsM x + t) % 8192)))] [] ph := by
    intro t ht hp' hno h0
    have hm : (hsM x + t) % 8192 < 8192 := Nat.mod_lt _ (by omega)
    have hs := v2 _ hm
    rw [h0] at hs
    have hmt : mtB sh c x = false := by
      cases hq : mtB sh c x with
      | false => rfl
      | true =>
        obtain ⟨j, j1, j2⟩ := (mtB_iff c).mp hq
        exact absurd j2 (hno j j1)
    have hq := hQ
    unfold ntS at hq
    simp only [hmt, Bool.false_or] at hq
    cases tm with
    | true =>
      rw [if_pos rfl] at hq
      have n8 : m 8 = nI 1 := n8
      have hq2 := hq m ph fr_id (fun _ _ _ => rfl) hX
      (repeat (first | (refine px_st rfl rfl ?_; simp only [px_wp, px_at, px_set, px_set2, px_clr, px_ldi, px_ldl, px_lda, px_i1, px_i2, px_l1, px_l2, px_il, px_a1, px_r1, px_r2, px_ir, px_vir, px_g, px_v1, px_v2, px_gf, px_pf, px_ps, px_ar, px_nth, px_upd, px_zero, px_dfl, px_put_self, px_put_ne, px_sw, nI_add, pk_mul, true_and, and_true, Nat.reduceAdd, Nat.reduceLT, Nat.reduceEqDiff, List.length_cons, List.length_nil, true_or, or_true, List.set_set, ne_eq, not_false_eq_true, Fin.isValue, Fin.val_zero, Fin.val_one, Fin.val_two, reduceCtorEq, Option.map_some, List.length_set, Nat.zero_lt_succ, Option.toList_some, Option.toList_none, List.cons_append, List.nil_append, px_b_2, IA, LA, BA, ZA, QA, PT, DR, TL, MC, CD, CC, false_and, or_false, false_or, nar_b, nar_0, nar_1, nar_y, h100, g_slot, k139, hs, g_isTooMany, n8]) | (refine ⟨_, rfl, by omega, ?_⟩) | (refine ⟨fun h => absurd h (nI_nlt (by omega) (by omega)), fun _ => ?_⟩) | (refine ⟨fun _ => ?_, fun h => absurd h (nI_nlt (by omega) (by omega))⟩) | (refine ⟨fun h => absurd (nI_lt (by omega) (by omega)) h, fun _ => ?_⟩) | (refine ⟨fun _ => ?_, fun h => absurd (nI_lt (by omega) (by omega)) h⟩) | (refine ⟨fun h => absurd ((nI_eq (by omega) (by omega)).mp h) (by omega), fun _ => ?_⟩) | (refine ⟨fun _ => ?_, fun h => absurd ((nI_eq (by omega) (by omega)).mp h) (by omega)⟩) | (refine ⟨fun h => absurd h (by decide), fun _ => ?_⟩) | (refine ⟨fun _ => ?_, fun h => absurd h (by decide)⟩) | (refine ⟨fun h => absurd rfl h, fun _ => ?_⟩) | (refine ⟨fun _ => ?_, fun h => absurd rfl h⟩)))
      exact px_return rfl rfl (Nat.le_refl _) (Nat.le_refl _) hq2
    | false =>
      rw [if_neg (by simp)] at hq
      have n8 : m 8 = nI 0 := n8
      by_cases hc3 : c = 3000
      · rw [if_pos hc3] at hq
        have hq2 := hq (upd m 8 (nI 1)) (ph.set 100 (MD (upd m 8 (nI 1)))) (fm_set fr_id rfl) (fun i h1 h2 => up_ne (by omega)) ⟨px_put_self.trans (by rw [h100]; rfl), ⟨rfl, n9, fun i hi => (up_ne (by omega)).trans (n0 i hi)⟩, ⟨hc, hsh⟩, F, C, s, sl, (px_put_ne (by decide)).trans k136, (px_put_ne (by decide)).trans k138, (px_put_ne (by decide)).trans k139, v1, v2, hH⟩
        rw [hc3] at n9
        (repeat (first | (refine px_st rfl rfl ?_; simp only [px_wp, px_at, px_set, px_set2, px_clr, px_ldi, px_ldl, px_lda, px_i1, px_i2, px_l1, px_l2, px_il, px_a1, px_r1, px_r2, px_ir, px_vir, px_g, px_v1, px_v2, px_gf, px_pf, px_ps, px_ar, px_nth, px_upd, px_zero, px_dfl, px_put_self, px_put_ne, px_sw, nI_add, pk_mul, true_and, and_true, Nat.reduceAdd, Nat.reduceLT, Nat.reduceEqDiff, List.length_cons, List.length_nil, true_or, or_true, List.set_set, ne_eq, not_false_eq_true, Fin.isValue, Fin.val_zero, Fin.val_one, Fin.val_two, reduceCtorEq, Option.map_some, List.length_set, Nat.zero_lt_succ, Option.toList_some, Option.toList_none, List.cons_append, List.nil_append, px_b_2, IA, LA, BA, ZA, QA, PT, DR, TL, MC, CD, CC, false_and, or_false, false_or, nar_b, nar_0, nar_1, nar_y, h100, g_slot, k139, hs, g_isTooMany, n8, g_seen, n9, p_isTooMany, md_len]) | (refine ⟨_, rfl, by omega, ?_⟩) | (refine ⟨fun h => absurd h (nI_nlt (by omega) (by omega)), fun _ => ?_⟩) | (refine ⟨fun _ => ?_, fun h => absurd h (nI_nlt (by omega) (by omega))⟩) | (refine ⟨fun h => absurd (nI_lt (by omega) (by omega)) h, fun _ => ?_⟩) | (refine ⟨fun _ => ?_, fun h => absurd (nI_lt (by omega) (by omega)) h⟩) | (refine ⟨fun h => absurd ((nI_eq (by omega) (by omega)).mp h) (by omega), fun _ => ?_⟩) | (refine ⟨fun _ => ?_, fun h => absurd ((nI_eq (by omega) (by omega)).mp h) (by omega)⟩) | (refine ⟨fun h => absurd h (by decide), fun _ => ?_⟩) | (refine ⟨fun _ => ?_, fun h => absurd h (by decide)⟩) | (refine ⟨fun h => absurd rfl h, fun _ => ?_⟩) | (refine ⟨fun _ => ?_, fun h => absurd rfl h⟩)))
        exact px_return rfl rfl (Nat.le_refl _) (Nat.le_refl _) hq2
      · rw [if_neg hc3] at hq
        (repeat (first | (refine px_st rfl rfl ?_; simp only [px_wp, px_at, px_set, px_set2, px_clr, px_ldi, px_ldl, px_lda, px_i1, px_i2, px_l1, px_l2, px_il, px_a1, px_r1, px_r2, px_ir, px_vir, px_g, px_v1, px_v2, px_gf, px_pf, px_ps, px_ar, px_nth, px_upd, px_zero, px_dfl, px_put_self, px_put_ne, px_sw, nI_add, pk_mul, true_and, and_true, Nat.reduceAdd, Nat.reduceLT, Nat.reduceEqDiff, List.length_cons, List.length_nil, true_or, or_true, List.set_set, ne_eq, not_false_eq_true, Fin.isValue, Fin.val_zero, Fin.val_one, Fin.val_two, reduceCtorEq, Option.map_some, List.length_set, Nat.zero_lt_succ, Option.toList_some, Option.toList_none, List.cons_append, List.nil_append, px_b_2, IA, LA, BA, ZA, QA, PT, DR, TL, MC, CD, CC, false_and, or_false, false_or, nar_b, nar_0, nar_1, nar_y, h100, g_slot, k139, hs, g_isTooMany, n8, g_seen, n9, g_shape, g_cameFrom, k136, k138, p_seen, md_len, pk_us]) | (refine ⟨_, rfl, by omega, ?_⟩) | (refine ⟨fun h => absurd h (nI_nlt (by omega) (by omega)), fun _ => ?_⟩) | (refine ⟨fun _ => ?_, fun h => absurd h (nI_nlt (by omega) (by omega))⟩) | (refine ⟨fun h => absurd (nI_lt (by omega) (by omega)) h, fun _ => ?_⟩) | (refine ⟨fun _ => ?_, fun h => absurd (nI_lt (by omega) (by omega)) h⟩) | (refine ⟨fun h => absurd ((nI_eq (by omega) (by omega)).mp h) (by omega), fun _ => ?_⟩) | (refine ⟨fun _ => ?_, fun h => absurd ((nI_eq (by omega) (by omega)).mp h) (by omega)⟩) | (refine ⟨fun h => absurd h (by decide), fun _ => ?_⟩) | (refine ⟨fun _ => ?_, fun h => absurd h (by decide)⟩) | (refine ⟨fun h => absurd rfl h, fun _ => ?_⟩) | (refine ⟨fun _ => ?_, fun h => absurd rfl h⟩)))
        refine px_return rfl rfl (Nat.le_refl _) (Nat.le_refl _) ?_
        refine hq (upd m 9 (nI (c + 1))) _ (fm_set (fm_set (fm_set (fm_set fr_id rfl) rfl) rfl) rfl) (fun i h1 h2 => up_ne (by omega)) ⟨?_, ⟨n8, rfl, fun i hi => (up_ne (by omega)).trans (n0 i hi)⟩, ⟨by show c + 1 ≤ 3000; omega, fun i hi => ?_⟩, vp_updL F c (lN (TS x)), upd C c (nI k), upd s ((hsM x + t) % 8192) (nI (c + 1)), va_up sl ((hsM x + t) % 8192) (c + 1), ?_, ?_, ?_, fun i hi => ?_, fun q hq' => ?_, HT_put hH ht hp' h0⟩
        · simp only [px_put_self, px_put_ne, h100, k136, k138, k139, Nat.reduceEqDiff, not_false_eq_true, Option.map_some]
        · have hi : i < c + 1 := hi
          show va_up sh c x i < 2 ^ 28
          by_cases e : i = c
          · subst e; rw [va_up_s]; exact hx28
          · rw [va_up_n e]; exact hsh i (by omega)
        · simp only [px_put_self, px_put_ne, h100, k136, k138, k139, Nat.reduceEqDiff, not_false_eq_true, Option.map_some]
        · simp only [px_put_self, px_put_ne, h100, k136, k138, k139, Nat.reduceEqDiff, not_false_eq_true, Option.map_some]
        · simp only [px_put_self, px_put_ne, h100, k136, k138, k139, Nat.reduceEqDiff, not_false_eq_true, Option.map_some]
        · have hi : i < c + 1 := hi
          show vp_updL F c (lN (TS x)) i = lN (TS (va_up sh c x i)) ∧ upd C c (nI k) i = nI (va_up cf c k i)
          by_cases e : i = c
          · subst e
            rw [va_up_s, va_up_s, pk_us]
            exact ⟨if_pos rfl, rfl⟩
          · rw [va_up_n e, va_up_n e, up_ne e]
            exact ⟨(if_neg e).trans (v1 i (by omega)).1, (v1 i (by omega)).2⟩
        · by_cases e : q = (hsM x + t) % 8192
          · rw [e, pk_us, va_up_s]
          · rw [up_ne e, va_up_n e]; exact v2 q hq'
  have loop : ∀ (r t : Nat), t + r = t0 → (∀ t', t' < t → ¬ sl ((hsM x + t') % 8192) = 0 ∧ ∀ j, j < c → sl ((hsM x + t') % 8192) = j + 1 → ¬ sh j = x) → px_W G mX12_note d 0 0 Q 0 0 95 [some (.ref 100), some (.int (nI k)), some (.int (nI p)), some (.long (lN (TS x))), none, some (.int (nI ((hsM x + t) % 8192)))] [] ph := by
    intro r
    induction r with
    | zero =>
      intro t ht hp'
      have htt : t = t0 := by omega
      subst htt
      have hm : (hsM x + t) % 8192 < 8192 := Nat.mod_lt _ (by omega)
      have hs := v2 _ hm
      rw [hz] at hs
      have hfr := free t ht0 (fun t' ht' => (hp' t' ht').1) (HT_no hH (fun t' ht' => (hp' t' ht').2) hz) hz
      (repeat (first | (exact hfr) | (refine px_st rfl rfl ?_; simp only [px_wp, px_at, px_set, px_set2, px_clr, px_ldi, px_ldl, px_lda, px_i1, px_i2, px_l1, px_l2, px_il, px_a1, px_r1, px_r2, px_ir, px_vir, px_g, px_v1, px_v2, px_gf, px_pf, px_ps, px_ar, px_nth, px_upd, px_zero, px_dfl, px_put_self, px_put_ne, px_sw, nI_add, pk_mul, true_and, and_true, Nat.reduceAdd, Nat.reduceLT, Nat.reduceEqDiff, List.length_cons, List.length_nil, true_or, or_true, List.set_set, ne_eq, not_false_eq_true, Fin.isValue, Fin.val_zero, Fin.val_one, Fin.val_two, reduceCtorEq, Option.map_some, List.length_set, Nat.zero_lt_succ, Option.toList_some, Option.toList_none, List.cons_append, List.nil_append, px_b_2, IA, LA, BA, ZA, QA, PT, DR, TL, MC, CD, CC, false_and, or_false, false_or, nar_b, nar_0, nar_1, nar_y, h100, g_slot, k139, hs]) | (refine ⟨_, rfl, by omega, ?_⟩) | (refine ⟨fun h => absurd h (nI_nlt (by omega) (by omega)), fun _ => ?_⟩) | (refine ⟨fun _ => ?_, fun h => absurd h (nI_nlt (by omega) (by omega))⟩) | (refine ⟨fun h => absurd (nI_lt (by omega) (by omega)) h, fun _ => ?_⟩) | (refine ⟨fun _ => ?_, fun h => absurd (nI_lt (by omega) (by omega)) h⟩) | (refine ⟨fun h => absurd ((nI_eq (by omega) (by omega)).mp h) (by omega), fun _ => ?_⟩) | (refine ⟨fun _ => ?_, fun h => absurd ((nI_eq (by omega) (by omega)).mp h) (by omega)⟩) | (refine ⟨fun h => absurd h (by decide), fun _ => ?_⟩) | (refine ⟨fun _ => ?_, fun h => absurd h (by decide)⟩) | (refine ⟨fun h => absurd rfl h, fun _ => ?_⟩) | (refine ⟨fun _ => ?_, fun h => absurd rfl h⟩)))
    | succ r ih =>
      intro t ht hp'
      have hm : (hsM x + t) % 8192 < 8192 := Nat.mod_lt _ (by omega)
      have hs := v2 _ hm
      have hle := hH.1 _ hm
      by_cases h00 : sl ((hsM x + t) % 8192) = 0
      · rw [h00] at hs
        have hfr := free t (by omega) (fun t' ht' => (hp' t' ht').1) (HT_no hH (fun t' ht' => (hp' t' ht').2) h00) h00
        (repeat (first | (exact hfr) | (refine px_st rfl rfl ?_; simp only [px_wp, px_at, px_set, px_set2, px_clr, px_ldi, px_ldl, px_lda, px_i1, px_i2, px_l1, px_l2, px_il, px_a1, px_r1, px_r2, px_ir, px_vir, px_g, px_v1, px_v2, px_gf, px_pf, px_ps, px_ar, px_nth, px_upd, px_zero, px_dfl, px_put_self, px_put_ne, px_sw, nI_add, pk_mul, true_and, and_true, Nat.reduceAdd, Nat.reduceLT, Nat.reduceEqDiff, List.length_cons, List.length_nil, true_or, or_true, List.set_set, ne_eq, not_false_eq_true, Fin.isValue, Fin.val_zero, Fin.val_one, Fin.val_two, reduceCtorEq, Option.map_some, List.length_set, Nat.zero_lt_succ, Option.toList_some, Option.toList_none, List.cons_append, List.nil_append, px_b_2, IA, LA, BA, ZA, QA, PT, DR, TL, MC, CD, CC, false_and, or_false, false_or, nar_b, nar_0, nar_1, nar_y, h100, g_slot, k139, hs]) | (refine ⟨_, rfl, by omega, ?_⟩) | (refine ⟨fun h => absurd h (nI_nlt (by omega) (by omega)), fun _ => ?_⟩) | (refine ⟨fun _ => ?_, fun h => absurd h (nI_nlt (by omega) (by omega))⟩) | (refine ⟨fun h => absurd (nI_lt (by omega) (by omega)) h, fun _ => ?_⟩) | (refine ⟨fun _ => ?_, fun h => absurd (nI_lt (by omega) (by omega)) h⟩) | (refine ⟨fun h => absurd ((nI_eq (by omega) (by omega)).mp h) (by omega), fun _ => ?_⟩) | (refine ⟨fun _ => ?_, fun h => absurd ((nI_eq (by omega) (by omega)).mp h) (by omega)⟩) | (refine ⟨fun h => absurd h (by decide), fun _ => ?_⟩) | (refine ⟨fun _ => ?_, fun h => absurd h (by decide)⟩) | (refine ⟨fun h => absurd rfl h, fun _ => ?_⟩) | (refine ⟨fun _ => ?_, fun h => absurd rfl h⟩)))
      · obtain ⟨j, hj⟩ : ∃ j, sl ((hsM x + t) % 8192) = j + 1 := ⟨_, (Nat.succ_pred h00).symm⟩
        rw [hj] at hs
        have hjc : j < c := by omega
        have hF := (v1 j hjc).1
        have hsub : nI (j + 1) - nI 1 = nI j := pk_sub (by omega)
        have hpos : nI 0 < nI (j + 1) := nI_lt (by omega) (by omega)
        by_cases hfx : sh j = x
        · rw [hfx] at hF
          have hcmp : lg_cmp (lN (TS x)) (lN (TS x)) = nI 0 := (lg_cmp_0 _ _).mpr rfl
          have hmt : mtB sh c x = true := (mtB_iff c).mpr ⟨j, hjc, hfx⟩
          have hq := hQ
          unfold ntS at hq
          simp only [hmt, Bool.true_or, if_true] at hq
          have hq2 := hq m ph fr_id (fun _ _ _ => rfl) hX
          (repeat (first | (first | refine ⟨fun q => absurd hpos q, fun _ => ?_⟩ | refine ⟨fun _ => ?_, fun q => absurd hpos q⟩) | (refine px_st rfl rfl ?_; simp only [px_wp, px_at, px_set, px_set2, px_clr, px_ldi, px_ldl, px_lda, px_i1, px_i2, px_l1, px_l2, px_il, px_a1, px_r1, px_r2, px_ir, px_vir, px_g, px_v1, px_v2, px_gf, px_pf, px_ps, px_ar, px_nth, px_upd, px_zero, px_dfl, px_put_self, px_put_ne, px_sw, nI_add, pk_mul, true_and, and_true, Nat.reduceAdd, Nat.reduceLT, Nat.reduceEqDiff, List.length_cons, List.length_nil, true_or, or_true, List.set_set, ne_eq, not_false_eq_true, Fin.isValue, Fin.val_zero, Fin.val_one, Fin.val_two, reduceCtorEq, Option.map_some, List.length_set, Nat.zero_lt_succ, Option.toList_some, Option.toList_none, List.cons_append, List.nil_append, px_b_2, IA, LA, BA, ZA, QA, PT, DR, TL, MC, CD, CC, false_and, or_false, false_or, nar_b, nar_0, nar_1, nar_y, h100, g_slot, k139, hs, hsub, g_shape, k136, hF, hcmp]) | (refine ⟨_, rfl, by omega, ?_⟩) | (refine ⟨fun h => absurd h (nI_nlt (by omega) (by omega)), fun _ => ?_⟩) | (refine ⟨fun _ => ?_, fun h => absurd h (nI_nlt (by omega) (by omega))⟩) | (refine ⟨fun h => absurd (nI_lt (by omega) (by omega)) h, fun _ => ?_⟩) | (refine ⟨fun _ => ?_, fun h => absurd (nI_lt (by omega) (by omega)) h⟩) | (refine ⟨fun h => absurd ((nI_eq (by omega) (by omega)).mp h) (by omega), fun _ => ?_⟩) | (refine ⟨fun _ => ?_, fun h => absurd ((nI_eq (by omega) (by omega)).mp h) (by omega)⟩) | (refine ⟨fun h => absurd h (by decide), fun _ => ?_⟩) | (refine ⟨fun _ => ?_, fun h => absurd h (by decide)⟩) | (refine ⟨fun h => absurd rfl h, fun _ => ?_⟩) | (refine ⟨fun _ => ?_, fun h => absurd rfl h⟩)))
          exact px_return rfl rfl (Nat.le_refl _) (Nat.le_refl _) hq2
        · have hj28 := hsh j hjc
          have hTj : TS (sh j) < 2 ^ 34 := TY_lt (dg_p hj28)
          have hcmp : ¬ lg_cmp (lN (TS (sh j))) (lN (TS x)) = nI 0 := fun q => by
            have q1 := (lg_cmp_0 _ _).mp q
            have q2 := congrArg uN q1
            rw [uN_lN (by omega), uN_lN (by omega)] at q2
            exact hfx (TS_inj hj28 hx28 q2)
          have hand : nI ((hsM x + t) % 8192 + 1) &&& nI 8191 = nI ((hsM x + (t + 1)) % 8192) := by
            rw [pk_andN (by omega) 13 (by decide)]
            congr 1
            omega
          have hih := ih (t + 1) (by omega) (fun t' ht' => by
            by_cases htt : t' = t
            · subst htt
              refine ⟨h00, fun j' hj' e => ?_⟩
              rw [hj] at e
              have : j = j' := by omega
              subst this
              exact hfx
            · exact hp' t' (by omega))
          (repeat (first | (first | exact hih | refine ⟨fun q => absurd hpos q, fun _ => ?_⟩ | refine ⟨fun q => absurd q hcmp, fun _ => ?_⟩) | (refine px_st rfl rfl ?_; simp only [px_wp, px_at, px_set, px_set2, px_clr, px_ldi, px_ldl, px_lda, px_i1, px_i2, px_l1, px_l2, px_il, px_a1, px_r1, px_r2, px_ir, px_vir, px_g, px_v1, px_v2, px_gf, px_pf, px_ps, px_ar, px_nth, px_upd, px_zero, px_dfl, px_put_self, px_put_ne, px_sw, nI_add, pk_mul, true_and, and_true, Nat.reduceAdd, Nat.reduceLT, Nat.reduceEqDiff, List.length_cons, List.length_nil, true_or, or_true, List.set_set, ne_eq, not_false_eq_true, Fin.isValue, Fin.val_zero, Fin.val_one, Fin.val_two, reduceCtorEq, Option.map_some, List.length_set, Nat.zero_lt_succ, Option.toList_some, Option.toList_none, List.cons_append, List.nil_append, px_b_2, IA, LA, BA, ZA, QA, PT, DR, TL, MC, CD, CC, false_and, or_false, false_or, nar_b, nar_0, nar_1, nar_y, h100, g_slot, k139, hs, hsub, g_shape, k136, hF, hand]) | (refine ⟨_, rfl, by omega, ?_⟩) | (refine ⟨fun h => absurd h (nI_nlt (by omega) (by omega)), fun _ => ?_⟩) | (refine ⟨fun _ => ?_, fun h => absurd h (nI_nlt (by omega) (by omega))⟩) | (refine ⟨fun h => absurd (nI_lt (by omega) (by omega)) h, fun _ => ?_⟩) | (refine ⟨fun _ => ?_, fun h => absurd (nI_lt (by omega) (by omega)) h⟩) | (refine ⟨fun h => absurd ((nI_eq (by omega) (by omega)).mp h) (by omega), fun _ => ?_⟩) | (refine ⟨fun _ => ?_, fun h => absurd ((nI_eq (by omega) (by omega)).mp h) (by omega)⟩) | (refine ⟨fun h => absurd h (by decide), fun _ => ?_⟩) | (refine ⟨fun _ => ?_, fun h => absurd h (by decide)⟩) | (refine ⟨fun h => absurd rfl h, fun _ => ?_⟩) | (refine ⟨fun _ => ?_, fun h => absurd rfl h⟩)))
  have hl := loop t0 0 (by omega) (fun t' ht' => absurd ht' (by omega))
  rw [show (hsM x + 0) % 8192 = hsM x by omega] at hl
  clear o
  refine px_start kX12_note (Nat.le_of_ble_eq_true rfl) ?_
  show px_W G _ _ _ _ _ 0 0 0 [some (.ref 100), some (.int (nI k)), some (.int (nI p)), none, none, none] [] ph
  (repeat (first | (exact hl) | (refine px_st rfl rfl ?_; simp only [px_wp, px_at, px_set, px_set2, px_clr, px_ldi, px_ldl, px_lda, px_i1, px_i2, px_l1, px_l2, px_il, px_a1, px_r1, px_r2, px_ir, px_vir, px_g, px_v1, px_v2, px_gf, px_pf, px_ps, px_ar, px_nth, px_upd, px_zero, px_dfl, px_put_self, px_put_ne, px_sw, nI_add, pk_mul, true_and, and_true, Nat.reduceAdd, Nat.reduceLT, Nat.reduceEqDiff, List.length_cons, List.length_nil, true_or, or_true, List.set_set, ne_eq, not_false_eq_true, Fin.isValue, Fin.val_zero, Fin.val_one, Fin.val_two, reduceCtorEq, Option.map_some, List.length_set, Nat.zero_lt_succ, Option.toList_some, Option.toList_none, List.cons_append, List.nil_append, px_b_2, IA, LA, BA, ZA, QA, PT, DR, TL, MC, CD, CC, false_and, or_false, false_or, nar_b, nar_0, nar_1, nar_y, h100, g_others, g_othersBag, g_chosen, g_state, g_own, g_ownBag, g_likely, g_owner, g_ownerBag, y2, y3, y4, y5, y6, y7, y8, y9, y10, i0, i1, i2, i3, i4, i5, i6, i7, i8, i9, o1, o2, o3, o4, o5, o6, o7, o8, o9, hu, l_i]) | (refine ⟨_, rfl, by omega, ?_⟩) | (refine ⟨fun h => absurd h (nI_nlt (by omega) (by omega)), fun _ => ?_⟩) | (refine ⟨fun _ => ?_, fun h => absurd h (nI_nlt (by omega) (by omega))⟩) | (refine ⟨fun h => absurd (nI_lt (by omega) (by omega)) h, fun _ => ?_⟩) | (refine ⟨fun _ => ?_, fun h => absurd (nI_lt (by omega) (by omega)) h⟩) | (refine ⟨fun h => absurd ((nI_eq (by omega) (by omega)).mp h) (by omega), fun _ => ?_⟩) | (refine ⟨fun _ => ?_, fun h => absurd ((nI_eq (by omega) (by omega)).mp h) (by omega)⟩) | (refine ⟨fun h => absurd h (by decide), fun _ => ?_⟩) | (refine ⟨fun _ => ?_, fun h => absurd h (by decide)⟩) | (refine ⟨fun h => absurd rfl h, fun _ => ?_⟩) | (refine ⟨fun _ => ?_, fun h => absurd rfl h⟩)))
end NTE
