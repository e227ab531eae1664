/-- one stands on the way, and the one behind it leads on -/
def cD0 (dp : Nat → Nat) (fl : Nat → Option Nat) (le ow : Nat → Bool) (i k t : Nat) : Prop := ow i = true ∧ fl (i * 3 + k) = some t ∧ dp t = dp i + 1 ∧ le t = true
/-- the pairs ahead of (i, k), from a place on -/
def bfP (a i k i' k' : Nat) : Prop := a ≤ i' ∧ (i' < i ∨ (i' = i ∧ k' < k)) ∧ k' < 3
def lPB (dp fo : Nat → Nat) (fl : Nat → Option Nat) (le ow : Nat → Bool) (a i k ls : Nat) : Prop := (∀ i' k' t, bfP a i k i' k' → cD0 dp fl le ow i' k' t → ls ≤ sPl (fo t)) ∧ (ls = 32 ∨ ∃ i' k' t, bfP a i k i' k' ∧ cD0 dp fl le ow i' k' t ∧ ls = sPl (fo t))
def MW (dp fo : Nat → Nat) (fl : Nat → Option Nat) (le ow : Nat → Bool) (c a p i k : Nat) (ow' : Nat → Bool) : Prop := ∀ t, t < c → (ow' t = true ↔ (ow t = true ∨ ∃ i' k', bfP a i k i' k' ∧ cD0 dp fl le ow i' k' t ∧ sPl (fo t) = p))
section WLP
variable {c a i k ls p : Nat} {fo dp : Nat → Nat} {fl : Nat → Option Nat} {le ow ow' : Nat → Bool}
theorem bf_up (h : k = 3 ∨ ow i = false) (hai : a ≤ i) {i' k' t : Nat} (hc : cD0 dp fl le ow i' k' t) : bfP a (i + 1) 0 i' k' ↔ bfP a i k i' k' := by
  constructor
  · rintro ⟨h1, h2, h3⟩
    refine ⟨h1, ?_, h3⟩
    rcases Nat.lt_or_ge i' i with q | q
    · exact Or.inl q
    · have e : i' = i := by omega
      subst e
      rcases h with h | h
      · exact Or.inr ⟨rfl, by omega⟩
      · rw [hc.1] at h; cases h
  · rintro ⟨h1, h2, h3⟩
    exact ⟨h1, Or.inl (by omega), h3⟩
theorem lPB_up (h : k = 3 ∨ ow i = false) (hai : a ≤ i) (hL : lPB dp fo fl le ow a i k ls) : lPB dp fo fl le ow a (i + 1) 0 ls := by
  refine ⟨fun i' k' t hb hc => hL.1 i' k' t ((bf_up h hai hc).mp hb) hc, ?_⟩
  rcases hL.2 with q | ⟨i', k', t, hb, hc, e⟩
  · exact Or.inl q
  · exact Or.inr ⟨i', k', t, (bf_up h hai hc).mpr hb, hc, e⟩
theorem MW_up (h : k = 3 ∨ ow i = false) (hai : a ≤ i) (hM : MW dp fo fl le ow c a p i k ow') : MW dp fo fl le ow c a p (i + 1) 0 ow' := by
  intro t ht
  rw [hM t ht]
  constructor
  · rintro (q | ⟨i', k', hb, hc, e⟩)
    · exact Or.inl q
    · exact Or.inr ⟨i', k', (bf_up h hai hc).mpr hb, hc, e⟩
  · rintro (q | ⟨i', k', hb, hc, e⟩)
    · exact Or.inl q
    · exact Or.inr ⟨i', k', (bf_up h hai hc).mp hb, hc, e⟩
theorem bf_k {i' k' : Nat} (hk : k < 3) (hai : a ≤ i) : bfP a i (k + 1) i' k' ↔ bfP a i k i' k' ∨ (i' = i ∧ k' = k) := by
  unfold bfP
  omega
theorem lO_t (h : lO dp fl le i k = true) : ∃ t, fl (i * 3 + k) = some t ∧ dp t = dp i + 1 ∧ le t = true := by
  unfold lO at h
  cases hf : fl (i * 3 + k) with
  | none => rw [hf] at h; cases h
  | some t =>
    rw [hf] at h
    simp only [Bool.and_eq_true, decide_eq_true_eq] at h
    exact ⟨t, rfl, h.1, h.2⟩
theorem lO_f (h : lO dp fl le i k = false) {t : Nat} : ¬ cD0 dp fl le ow i k t := fun q => by
  unfold lO at h
  rw [q.2.1] at h
  simp only at h
  rw [decide_eq_true q.2.2.1, q.2.2.2] at h
  cases h
theorem lPB_no (hk : k < 3) (hai : a ≤ i) (h : ∀ t, ¬ cD0 dp fl le ow i k t) (hL : lPB dp fo fl le ow a i k ls) : lPB dp fo fl le ow a i (k + 1) ls := by
  refine ⟨fun i' k' t hb hc => ?_, ?_⟩
  · rcases (bf_k hk hai).mp hb with q | ⟨rfl, rfl⟩
    · exact hL.1 i' k' t q hc
    · exact absurd hc (h t)
  · rcases hL.2 with q | ⟨i', k', t, hb, hc, e⟩
    · exact Or.inl q
    · exact Or.inr ⟨i', k', t, (bf_k hk hai).mpr (Or.inl hb), hc, e⟩
theorem lPB_yes {t : Nat} (hk : k < 3) (hai : a ≤ i) (h : cD0 dp fl le ow i k t) (hL : lPB dp fo fl le ow a i k ls) : lPB dp fo fl le ow a i (k + 1) (if sPl (fo t) < ls then sPl (fo t) else ls) := by
  refine ⟨fun i' k' t' hb hc => ?_, ?_⟩
  · rcases (bf_k hk hai).mp hb with q | ⟨rfl, rfl⟩
    · have := hL.1 i' k' t' q hc
      split <;> omega
    · have e : t' = t := by
        have h1 := hc.2.1
        rw [h.2.1] at h1
        cases h1
        rfl
      subst e
      split <;> omega
  · by_cases hlt : sPl (fo t) < ls
    · rw [if_pos hlt]
      exact Or.inr ⟨i, k, t, (bf_k hk hai).mpr (Or.inr ⟨rfl, rfl⟩), h, rfl⟩
    · rw [if_neg hlt]
      rcases hL.2 with q | ⟨i', k', t', hb, hc, e⟩
      · exact Or.inl q
      · exact Or.inr ⟨i', k', t', (bf_k hk hai).mpr (Or.inl hb), hc, e⟩
theorem MW_no (hk : k < 3) (hai : a ≤ i) (h : ∀ t, cD0 dp fl le ow i k t → ¬ sPl (fo t) = p) (hM : MW dp fo fl le ow c a p i k ow') : MW dp fo fl le ow c a p i (k + 1) ow' := by
  intro t ht
  rw [hM t ht]
  constructor
  · rintro (q | ⟨i', k', hb, hc, e⟩)
    · exact Or.inl q
    · exact Or.inr ⟨i', k', (bf_k hk hai).mpr (Or.inl hb), hc, e⟩
  · rintro (q | ⟨i', k', hb, hc, e⟩)
    · exact Or.inl q
    · rcases (bf_k hk hai).mp hb with q | ⟨rfl, rfl⟩
      · exact Or.inr ⟨i', k', q, hc, e⟩
      · exact absurd e (h t hc)
theorem MW_yes {t : Nat} (hk : k < 3) (hai : a ≤ i) (h : cD0 dp fl le ow i k t) (e : sPl (fo t) = p) (hM : MW dp fo fl le ow c a p i k ow') : MW dp fo fl le ow c a p i (k + 1) (va_up ow' t true) := by
  intro t' ht'
  by_cases q : t' = t
  · subst q
    rw [va_up_s]
    exact ⟨fun _ => Or.inr ⟨i, k, (bf_k hk hai).mpr (Or.inr ⟨rfl, rfl⟩), h, e⟩, fun _ => rfl⟩
  · rw [va_up_n q, hM t' ht']
    constructor
    · rintro (r | ⟨i', k', hb, hc, e⟩)
      · exact Or.inl r
      · exact Or.inr ⟨i', k', (bf_k hk hai).mpr (Or.inl hb), hc, e⟩
    · rintro (r | ⟨i', k', hb, hc, e'⟩)
      · exact Or.inl r
      · rcases (bf_k hk hai).mp hb with r | ⟨rfl, rfl⟩
        · exact Or.inr ⟨i', k', r, hc, e'⟩
        · have h1 := hc.2.1
          rw [h.2.1] at h1
          cases h1
          exact absurd rfl q
end WLP
section WAD
variable {G : px_G} {ph : List px_E} {d : Nat} {Q : Option Value → List px_E → Prop} {os c D N : Nat} {fo dp ps : Nat → Nat} {fl : Nat → Option Nat} {B le ow : Nat → Bool} {a e : Nat}
set_option maxRecDepth 100000 in
set_option maxHeartbeats 4000000 in
theorem c_S_leastPlaceBehind (h : sW ph os c fo dp fl B le ow D ps) (hb : sB c fo dp fl) (hae : a ≤ e) (he : e ≤ c) (hQ : ∀ ls, ls ≤ 32 → lPB dp fo fl le ow a e 0 ls → Q (some (.int (nI ls))) ph) : px_Met G mX9_leastPlaceBehind (d + 1) 0 0 [.ref os, .int (nI a), .int (nI e)] ph Q := by
  have hS0 := h
  obtain ⟨k0, k1, f, dd, m, fw, pa, k2, k3, k4, k5, k6, v1, v2⟩ := h
  have hc := hb.1
  have loop : ∀ (r i ls : Nat) (l5 : Option Value), i + r = e → a ≤ i → ls ≤ 32 → lPB dp fo fl le ow a i 0 ls → px_W G mX9_leastPlaceBehind (d + 1) 0 0 Q 0 0 6 [some (.ref os), some (.int (nI a)), some (.int (nI e)), some (.int (nI ls)), some (.int (nI i)), l5] [] ph := by
    intro r
    induction r with
    | zero =>
      intro i ls l5 hi hai hls hL
      have e1 : i = e := by omega
      subst e1
      have hq := hQ ls hls hL
      (repeat (first | (refine px_st rfl rfl ?_; simp only [px_wp, px_at, px_set, px_set2, px_clr, px_ldi, px_ldl, px_lda, px_i1, px_i2, px_l1, px_l2, px_il, px_a1, px_r1, px_r2, px_ir, px_vir, px_g, px_v1, px_v2, px_gf, px_pf, px_ps, px_ar, px_nth, px_upd, px_zero, px_dfl, px_put_self, px_put_ne, px_sw, nI_add, pk_mul, true_and, and_true, Nat.reduceAdd, Nat.reduceLT, Nat.reduceEqDiff, List.length_cons, List.length_nil, true_or, or_true, List.set_set, ne_eq, not_false_eq_true, Fin.isValue, Fin.val_zero, Fin.val_one, Fin.val_two, reduceCtorEq, Option.map_some, List.length_set, Nat.zero_lt_succ, Option.toList_some, Option.toList_none, List.cons_append, List.nil_append, px_b_2, IA, LA, BA, ZA, QA, PT, DR, TL, MC, CD, CC, false_and, or_false, false_or, nar_b, nar_0, nar_1, nar_y]) | (refine ⟨_, rfl, by omega, ?_⟩) | (refine ⟨fun h => absurd h (nI_nlt (by omega) (by omega)), fun _ => ?_⟩) | (refine ⟨fun _ => ?_, fun h => absurd h (nI_nlt (by omega) (by omega))⟩) | (refine ⟨fun h => absurd (nI_lt (by omega) (by omega)) h, fun _ => ?_⟩) | (refine ⟨fun _ => ?_, fun h => absurd (nI_lt (by omega) (by omega)) h⟩) | (refine ⟨fun h => absurd ((nI_eq (by omega) (by omega)).mp h) (by omega), fun _ => ?_⟩) | (refine ⟨fun _ => ?_, fun h => absurd ((nI_eq (by omega) (by omega)).mp h) (by omega)⟩) | (refine ⟨fun h => absurd h (by decide), fun _ => ?_⟩) | (refine ⟨fun _ => ?_, fun h => absurd h (by decide)⟩) | (refine ⟨fun h => absurd rfl h, fun _ => ?_⟩) | (refine ⟨fun _ => ?_, fun h => absurd rfl h⟩)))
      exact px_ireturn rfl (Or.inl rfl) (Nat.le_refl _) (Nat.le_refl _) hq
    | succ r ih =>
      intro i ls l5 hi hai hls hL
      obtain ⟨w1, w2, w3, w4⟩ := v1 i (by omega)
      have e4 := mN_4 (B i) (le i) (ow i)
      have inner : ∀ (q k ls : Nat), k + q = 3 → ls ≤ 32 → lPB dp fo fl le ow a i k ls → px_W G mX9_leastPlaceBehind (d + 1) 0 0 Q 0 0 15 [some (.ref os), some (.int (nI a)), some (.int (nI e)), some (.int (nI ls)), some (.int (nI i)), some (.int (nI k))] [] ph := by
        intro q
        induction q with
        | zero =>
          intro k ls hk hls hL
          have e1 : k = 3 := by omega
          have hih := ih (i + 1) ls (some (.int (nI k))) (by omega) (by omega) hls (lPB_up (Or.inl e1) hai hL)
          subst e1
          (repeat (first | (exact hih) | (refine px_st rfl rfl ?_; simp only [px_wp, px_at, px_set, px_set2, px_clr, px_ldi, px_ldl, px_lda, px_i1, px_i2, px_l1, px_l2, px_il, px_a1, px_r1, px_r2, px_ir, px_vir, px_g, px_v1, px_v2, px_gf, px_pf, px_ps, px_ar, px_nth, px_upd, px_zero, px_dfl, px_put_self, px_put_ne, px_sw, nI_add, pk_mul, true_and, and_true, Nat.reduceAdd, Nat.reduceLT, Nat.reduceEqDiff, List.length_cons, List.length_nil, true_or, or_true, List.set_set, ne_eq, not_false_eq_true, Fin.isValue, Fin.val_zero, Fin.val_one, Fin.val_two, reduceCtorEq, Option.map_some, List.length_set, Nat.zero_lt_succ, Option.toList_some, Option.toList_none, List.cons_append, List.nil_append, px_b_2, IA, LA, BA, ZA, QA, PT, DR, TL, MC, CD, CC, false_and, or_false, false_or, nar_b, nar_0, nar_1, nar_y]) | (refine ⟨_, rfl, by omega, ?_⟩) | (refine ⟨fun h => absurd h (nI_nlt (by omega) (by omega)), fun _ => ?_⟩) | (refine ⟨fun _ => ?_, fun h => absurd h (nI_nlt (by omega) (by omega))⟩) | (refine ⟨fun h => absurd (nI_lt (by omega) (by omega)) h, fun _ => ?_⟩) | (refine ⟨fun _ => ?_, fun h => absurd (nI_lt (by omega) (by omega)) h⟩) | (refine ⟨fun h => absurd ((nI_eq (by omega) (by omega)).mp h) (by omega), fun _ => ?_⟩) | (refine ⟨fun _ => ?_, fun h => absurd ((nI_eq (by omega) (by omega)).mp h) (by omega)⟩) | (refine ⟨fun h => absurd h (by decide), fun _ => ?_⟩) | (refine ⟨fun _ => ?_, fun h => absurd h (by decide)⟩) | (refine ⟨fun h => absurd rfl h, fun _ => ?_⟩) | (refine ⟨fun _ => ?_, fun h => absurd rfl h⟩)))
        | succ q ih2 =>
          intro k ls hk hls hL
          have hk3 : k < 3 := by omega
          cases how : ow i with
          | false =>
            have hih := ih (i + 1) ls (some (.int (nI k))) (by omega) (by omega) hls (lPB_up (Or.inr how) hai hL)
            rw [how] at w3 e4
            have e4 : nI (mN (B i) (le i) false) &&& nI 4 = nI 0 := e4
            (repeat (first | (exact hih) | (refine px_st rfl rfl ?_; simp only [px_wp, px_at, px_set, px_set2, px_clr, px_ldi, px_ldl, px_lda, px_i1, px_i2, px_l1, px_l2, px_il, px_a1, px_r1, px_r2, px_ir, px_vir, px_g, px_v1, px_v2, px_gf, px_pf, px_ps, px_ar, px_nth, px_upd, px_zero, px_dfl, px_put_self, px_put_ne, px_sw, nI_add, pk_mul, true_and, and_true, Nat.reduceAdd, Nat.reduceLT, Nat.reduceEqDiff, List.length_cons, List.length_nil, true_or, or_true, List.set_set, ne_eq, not_false_eq_true, Fin.isValue, Fin.val_zero, Fin.val_one, Fin.val_two, reduceCtorEq, Option.map_some, List.length_set, Nat.zero_lt_succ, Option.toList_some, Option.toList_none, List.cons_append, List.nil_append, px_b_2, IA, LA, BA, ZA, QA, PT, DR, TL, MC, CD, CC, false_and, or_false, false_or, nar_b, nar_0, nar_1, nar_y, k0, SP, k4, w3, e4]) | (refine ⟨_, rfl, by omega, ?_⟩) | (refine ⟨fun h => absurd h (nI_nlt (by omega) (by omega)), fun _ => ?_⟩) | (refine ⟨fun _ => ?_, fun h => absurd h (nI_nlt (by omega) (by omega))⟩) | (refine ⟨fun h => absurd (nI_lt (by omega) (by omega)) h, fun _ => ?_⟩) | (refine ⟨fun _ => ?_, fun h => absurd (nI_lt (by omega) (by omega)) h⟩) | (refine ⟨fun h => absurd ((nI_eq (by omega) (by omega)).mp h) (by omega), fun _ => ?_⟩) | (refine ⟨fun _ => ?_, fun h => absurd ((nI_eq (by omega) (by omega)).mp h) (by omega)⟩) | (refine ⟨fun h => absurd h (by decide), fun _ => ?_⟩) | (refine ⟨fun _ => ?_, fun h => absurd h (by decide)⟩) | (refine ⟨fun h => absurd rfl h, fun _ => ?_⟩) | (refine ⟨fun _ => ?_, fun h => absurd rfl h⟩)))
          | true =>
            rw [how] at w3 e4
            have e4 : nI (mN (B i) (le i) true) &&& nI 4 = nI 4 := e4
            (repeat (first | (refine px_st rfl rfl ?_; simp only [px_wp, px_at, px_set, px_set2, px_clr, px_ldi, px_ldl, px_lda, px_i1, px_i2, px_l1, px_l2, px_il, px_a1, px_r1, px_r2, px_ir, px_vir, px_g, px_v1, px_v2, px_gf, px_pf, px_ps, px_ar, px_nth, px_upd, px_zero, px_dfl, px_put_self, px_put_ne, px_sw, nI_add, pk_mul, true_and, and_true, Nat.reduceAdd, Nat.reduceLT, Nat.reduceEqDiff, List.length_cons, List.length_nil, true_or, or_true, List.set_set, ne_eq, not_false_eq_true, Fin.isValue, Fin.val_zero, Fin.val_one, Fin.val_two, reduceCtorEq, Option.map_some, List.length_set, Nat.zero_lt_succ, Option.toList_some, Option.toList_none, List.cons_append, List.nil_append, px_b_2, IA, LA, BA, ZA, QA, PT, DR, TL, MC, CD, CC, false_and, or_false, false_or, nar_b, nar_0, nar_1, nar_y, k0, SP, k4, w3, e4]) | (refine ⟨_, rfl, by omega, ?_⟩) | (refine ⟨fun h => absurd h (nI_nlt (by omega) (by omega)), fun _ => ?_⟩) | (refine ⟨fun _ => ?_, fun h => absurd h (nI_nlt (by omega) (by omega))⟩) | (refine ⟨fun h => absurd (nI_lt (by omega) (by omega)) h, fun _ => ?_⟩) | (refine ⟨fun _ => ?_, fun h => absurd (nI_lt (by omega) (by omega)) h⟩) | (refine ⟨fun h => absurd ((nI_eq (by omega) (by omega)).mp h) (by omega), fun _ => ?_⟩) | (refine ⟨fun _ => ?_, fun h => absurd ((nI_eq (by omega) (by omega)).mp h) (by omega)⟩) | (refine ⟨fun h => absurd h (by decide), fun _ => ?_⟩) | (refine ⟨fun _ => ?_, fun h => absurd h (by decide)⟩) | (refine ⟨fun h => absurd rfl h, fun _ => ?_⟩) | (refine ⟨fun _ => ?_, fun h => absurd rfl h⟩)))
            refine px_cV rfl rfl kX9_leadsOn rfl (c_S_leadsOn (d := d) hS0 hb (show i < c by omega) hk3 ?_) (Nat.le_refl _) k0 rfl rfl rfl (Nat.le_of_ble_eq_true rfl) (Nat.zero_le _) (Nat.zero_le _)
            cases hl : lO dp fl le i k with
            | false =>
              have hih := ih2 (k + 1) ls (by omega) hls (lPB_no hk3 hai (fun t => lO_f hl) hL)
              (repeat (first | (exact hih) | (refine px_st rfl rfl ?_; simp only [px_wp, px_at, px_set, px_set2, px_clr, px_ldi, px_ldl, px_lda, px_i1, px_i2, px_l1, px_l2, px_il, px_a1, px_r1, px_r2, px_ir, px_vir, px_g, px_v1, px_v2, px_gf, px_pf, px_ps, px_ar, px_nth, px_upd, px_zero, px_dfl, px_put_self, px_put_ne, px_sw, nI_add, pk_mul, true_and, and_true, Nat.reduceAdd, Nat.reduceLT, Nat.reduceEqDiff, List.length_cons, List.length_nil, true_or, or_true, List.set_set, ne_eq, not_false_eq_true, Fin.isValue, Fin.val_zero, Fin.val_one, Fin.val_two, reduceCtorEq, Option.map_some, List.length_set, Nat.zero_lt_succ, Option.toList_some, Option.toList_none, List.cons_append, List.nil_append, px_b_2, IA, LA, BA, ZA, QA, PT, DR, TL, MC, CD, CC, false_and, or_false, false_or, nar_b, nar_0, nar_1, nar_y]) | (refine ⟨_, rfl, by omega, ?_⟩) | (refine ⟨fun h => absurd h (nI_nlt (by omega) (by omega)), fun _ => ?_⟩) | (refine ⟨fun _ => ?_, fun h => absurd h (nI_nlt (by omega) (by omega))⟩) | (refine ⟨fun h => absurd (nI_lt (by omega) (by omega)) h, fun _ => ?_⟩) | (refine ⟨fun _ => ?_, fun h => absurd (nI_lt (by omega) (by omega)) h⟩) | (refine ⟨fun h => absurd ((nI_eq (by omega) (by omega)).mp h) (by omega), fun _ => ?_⟩) | (refine ⟨fun _ => ?_, fun h => absurd ((nI_eq (by omega) (by omega)).mp h) (by omega)⟩) | (refine ⟨fun h => absurd h (by decide), fun _ => ?_⟩) | (refine ⟨fun _ => ?_, fun h => absurd h (by decide)⟩) | (refine ⟨fun h => absurd rfl h, fun _ => ?_⟩) | (refine ⟨fun _ => ?_, fun h => absurd rfl h⟩)))
            | true =>
              obtain ⟨t, t1, t2, t3⟩ := lO_t hl
              have w4 := w4 k hk3
              rw [t1] at w4
              have w4 : fw (i * 3 + k) = nI t := w4
              have htc := (hb.2 i (by omega)).2.2 k hk3 t t1
              obtain ⟨x1, -⟩ := v1 t htc
              have hfo := (hb.2 t htc).1
              have hpl := sPl_lt (fo t)
              (repeat (first | (refine px_st rfl rfl ?_; simp only [px_wp, px_at, px_set, px_set2, px_clr, px_ldi, px_ldl, px_lda, px_i1, px_i2, px_l1, px_l2, px_il, px_a1, px_r1, px_r2, px_ir, px_vir, px_g, px_v1, px_v2, px_gf, px_pf, px_ps, px_ar, px_nth, px_upd, px_zero, px_dfl, px_put_self, px_put_ne, px_sw, nI_add, pk_mul, true_and, and_true, Nat.reduceAdd, Nat.reduceLT, Nat.reduceEqDiff, List.length_cons, List.length_nil, true_or, or_true, List.set_set, ne_eq, not_false_eq_true, Fin.isValue, Fin.val_zero, Fin.val_one, Fin.val_two, reduceCtorEq, Option.map_some, List.length_set, Nat.zero_lt_succ, Option.toList_some, Option.toList_none, List.cons_append, List.nil_append, px_b_2, IA, LA, BA, ZA, QA, PT, DR, TL, MC, CD, CC, false_and, or_false, false_or, nar_b, nar_0, nar_1, nar_y, k0, SP, k5, w4, k2, x1]) | (refine ⟨_, rfl, by omega, ?_⟩) | (refine ⟨fun h => absurd h (nI_nlt (by omega) (by omega)), fun _ => ?_⟩) | (refine ⟨fun _ => ?_, fun h => absurd h (nI_nlt (by omega) (by omega))⟩) | (refine ⟨fun h => absurd (nI_lt (by omega) (by omega)) h, fun _ => ?_⟩) | (refine ⟨fun _ => ?_, fun h => absurd (nI_lt (by omega) (by omega)) h⟩) | (refine ⟨fun h => absurd ((nI_eq (by omega) (by omega)).mp h) (by omega), fun _ => ?_⟩) | (refine ⟨fun _ => ?_, fun h => absurd ((nI_eq (by omega) (by omega)).mp h) (by omega)⟩) | (refine ⟨fun h => absurd h (by decide), fun _ => ?_⟩) | (refine ⟨fun _ => ?_, fun h => absurd h (by decide)⟩) | (refine ⟨fun h => absurd rfl h, fun _ => ?_⟩) | (refine ⟨fun _ => ?_, fun h => absurd rfl h⟩)))
              rw [x1]
              refine px_cS rfl rfl kX9_placeOf rfl (c_H_placeOf (by omega) ?_) (Nat.le_refl _) rfl rfl (Nat.le_of_ble_eq_true rfl) (Nat.zero_le _) (Nat.zero_le _)
              refine px_min rfl (by omega) (by omega) (by omega) (Nat.le_of_ble_eq_true rfl) ?_
              have hih := ih2 (k + 1) (if sPl (fo t) < ls then sPl (fo t) else ls) (by omega) (by split <;> omega) (lPB_yes hk3 hai ⟨how, t1, t2, t3⟩ hL)
              have emin : (if nI (sPl (fo t)) < nI ls then nI (sPl (fo t)) else nI ls) = nI (if sPl (fo t) < ls then sPl (fo t) else ls) := by
                by_cases z : sPl (fo t) < ls
                · rw [if_pos z, if_pos (nI_lt z (by omega))]
                · rw [if_neg z, if_neg (nI_nlt (by omega) (by omega))]
              rw [emin]
              (repeat (first | (exact hih) | (refine px_st rfl rfl ?_; simp only [px_wp, px_at, px_set, px_set2, px_clr, px_ldi, px_ldl, px_lda, px_i1, px_i2, px_l1, px_l2, px_il, px_a1, px_r1, px_r2, px_ir, px_vir, px_g, px_v1, px_v2, px_gf, px_pf, px_ps, px_ar, px_nth, px_upd, px_zero, px_dfl, px_put_self, px_put_ne, px_sw, nI_add, pk_mul, true_and, and_true, Nat.reduceAdd, Nat.reduceLT, Nat.reduceEqDiff, List.length_cons, List.length_nil, true_or, or_true, List.set_set, ne_eq, not_false_eq_true, Fin.isValue, Fin.val_zero, Fin.val_one, Fin.val_two, reduceCtorEq, Option.map_some, List.length_set, Nat.zero_lt_succ, Option.toList_some, Option.toList_none, List.cons_append, List.nil_append, px_b_2, IA, LA, BA, ZA, QA, PT, DR, TL, MC, CD, CC, false_and, or_false, false_or, nar_b, nar_0, nar_1, nar_y]) | (refine ⟨_, rfl, by omega, ?_⟩) | (refine ⟨fun h => absurd h (nI_nlt (by omega) (by omega)), fun _ => ?_⟩) | (refine ⟨fun _ => ?_, fun h => absurd h (nI_nlt (by omega) (by omega))⟩) | (refine ⟨fun h => absurd (nI_lt (by omega) (by omega)) h, fun _ => ?_⟩) | (refine ⟨fun _ => ?_, fun h => absurd (nI_lt (by omega) (by omega)) h⟩) | (refine ⟨fun h => absurd ((nI_eq (by omega) (by omega)).mp h) (by omega), fun _ => ?_⟩) | (refine ⟨fun _ => ?_, fun h => absurd ((nI_eq (by omega) (by omega)).mp h) (by omega)⟩) | (refine ⟨fun h => absurd h (by decide), fun _ => ?_⟩) | (refine ⟨fun _ => ?_, fun h => absurd h (by decide)⟩) | (refine ⟨fun h => absurd rfl h, fun _ => ?_⟩) | (refine ⟨fun _ => ?_, fun h => absurd rfl h⟩)))
      have hin := inner 3 0 ls (by omega) hls hL
      (repeat (first | (exact hin) | (refine px_st rfl rfl ?_; simp only [px_wp, px_at, px_set, px_set2, px_clr, px_ldi, px_ldl, px_lda, px_i1, px_i2, px_l1, px_l2, px_il, px_a1, px_r1, px_r2, px_ir, px_vir, px_g, px_v1, px_v2, px_gf, px_pf, px_ps, px_ar, px_nth, px_upd, px_zero, px_dfl, px_put_self, px_put_ne, px_sw, nI_add, pk_mul, true_and, and_true, Nat.reduceAdd, Nat.reduceLT, Nat.reduceEqDiff, List.length_cons, List.length_nil, true_or, or_true, List.set_set, ne_eq, not_false_eq_true, Fin.isValue, Fin.val_zero, Fin.val_one, Fin.val_two, reduceCtorEq, Option.map_some, List.length_set, Nat.zero_lt_succ, Option.toList_some, Option.toList_none, List.cons_append, List.nil_append, px_b_2, IA, LA, BA, ZA, QA, PT, DR, TL, MC, CD, CC, false_and, or_false, false_or, nar_b, nar_0, nar_1, nar_y]) | (refine ⟨_, rfl, by omega, ?_⟩) | (refine ⟨fun h => absurd h (nI_nlt (by omega) (by omega)), fun _ => ?_⟩) | (refine ⟨fun _ => ?_, fun h => absurd h (nI_nlt (by omega) (by omega))⟩) | (refine ⟨fun h => absurd (nI_lt (by omega) (by omega)) h, fun _ => ?_⟩) | (refine ⟨fun _ => ?_, fun h => absurd (nI_lt (by omega) (by omega)) h⟩) | (refine ⟨fun h => absurd ((nI_eq (by omega) (by omega)).mp h) (by omega), fun _ => ?_⟩) | (refine ⟨fun _ => ?_, fun h => absurd ((nI_eq (by omega) (by omega)).mp h) (by omega)⟩) | (refine ⟨fun h => absurd h (by decide), fun _ => ?_⟩) | (refine ⟨fun _ => ?_, fun h => absurd h (by decide)⟩) | (refine ⟨fun h => absurd rfl h, fun _ => ?_⟩) | (refine ⟨fun _ => ?_, fun h => absurd rfl h⟩)))
  have hl := loop (e - a) a 32 none (by omega) (Nat.le_refl _) (by omega) ⟨fun i' k' t hb' _ => by
    have := hb'.1
    have := hb'.2.1
    omega, Or.inl rfl⟩
  refine px_start kX9_leastPlaceBehind (Nat.le_of_ble_eq_true rfl) ?_
  show px_W G _ _ _ _ _ 0 0 0 [some (.ref os), some (.int (nI a)), some (.int (nI e)), none, none, none] [] ph
  (repeat (first | (exact hl) | (refine px_st rfl rfl ?_; simp only [px_wp, px_at, px_set, px_set2, px_clr, px_ldi, px_ldl, px_lda, px_i1, px_i2, px_l1, px_l2, px_il, px_a1, px_r1, px_r2, px_ir, px_vir, px_g, px_v1, px_v2, px_gf, px_pf, px_ps, px_ar, px_nth, px_upd, px_zero, px_dfl, px_put_self, px_put_ne, px_sw, nI_add, pk_mul, true_and, and_true, Nat.reduceAdd, Nat.reduceLT, Nat.reduceEqDiff, List.length_cons, List.length_nil, true_or, or_true, List.set_set, ne_eq, not_false_eq_true, Fin.isValue, Fin.val_zero, Fin.val_one, Fin.val_two, reduceCtorEq, Option.map_some, List.length_set, Nat.zero_lt_succ, Option.toList_some, Option.toList_none, List.cons_append, List.nil_append, px_b_2, IA, LA, BA, ZA, QA, PT, DR, TL, MC, CD, CC, false_and, or_false, false_or, nar_b, nar_0, nar_1, nar_y]) | (refine ⟨_, rfl, by omega, ?_⟩) | (refine ⟨fun h => absurd h (nI_nlt (by omega) (by omega)), fun _ => ?_⟩) | (refine ⟨fun _ => ?_, fun h => absurd h (nI_nlt (by omega) (by omega))⟩) | (refine ⟨fun h => absurd (nI_lt (by omega) (by omega)) h, fun _ => ?_⟩) | (refine ⟨fun _ => ?_, fun h => absurd (nI_lt (by omega) (by omega)) h⟩) | (refine ⟨fun h => absurd ((nI_eq (by omega) (by omega)).mp h) (by omega), fun _ => ?_⟩) | (refine ⟨fun _ => ?_, fun h => absurd ((nI_eq (by omega) (by omega)).mp h) (by omega)⟩) | (refine ⟨fun h => absurd h (by decide), fun _ => ?_⟩) | (refine ⟨fun _ => ?_, fun h => absurd h (by decide)⟩) | (refine ⟨fun h => absurd rfl h, fun _ => ?_⟩) | (refine ⟨fun _ => ?_, fun h => absurd rfl h⟩)))
set_option maxRecDepth 100000 in
set_option maxHeartbeats 4000000 in
theorem c_S_markOnWay {p dl : Nat} (h : sW ph os c fo dp fl B le ow D ps) (hb : sB c fo dp fl) (hae : a ≤ e) (he : e ≤ c) (hp : p ≤ 32) (hdl : ∀ i, a ≤ i → i < e → dp i = dl) (hQ : ∀ ow' ph', fr (FS os) ph ph' → MW dp fo fl le ow c a p e 0 ow' → sW ph' os c fo dp fl B le ow' D ps → Q none ph') : px_Met G mX9_markOnWay (d + 1) 0 0 [.ref os, .int (nI a), .int (nI e), .int (nI p)] ph Q := by
  have hc := hb.1
  have loop : ∀ (r i : Nat) (ow' : Nat → Bool) (l5 l6 : Option Value) (ph' : List px_E), i + r = e → a ≤ i → (l5 = none ∨ ∃ x, l5 = some (.int x)) → fr (FS os) ph ph' → MW dp fo fl le ow c a p i 0 ow' → sW ph' os c fo dp fl B le ow' D ps → px_W G mX9_markOnWay (d + 1) 0 0 Q 0 0 3 [some (.ref os), some (.int (nI a)), some (.int (nI e)), some (.int (nI p)), some (.int (nI i)), l5, l6] [] ph' := by
    intro r
    induction r with
    | zero =>
      intro i ow' l5 l6 ph' hi hai h5 hf hM hS
      have e1 : i = e := by omega
      subst e1
      have hq := hQ ow' ph' hf hM hS
      (repeat (first | (refine px_st rfl rfl ?_; simp only [px_wp, px_at, px_set, px_set2, px_clr, px_ldi, px_ldl, px_lda, px_i1, px_i2, px_l1, px_l2, px_il, px_a1, px_r1, px_r2, px_ir, px_vir, px_g, px_v1, px_v2, px_gf, px_pf, px_ps, px_ar, px_nth, px_upd, px_zero, px_dfl, px_put_self, px_put_ne, px_sw, nI_add, pk_mul, true_and, and_true, Nat.reduceAdd, Nat.reduceLT, Nat.reduceEqDiff, List.length_cons, List.length_nil, true_or, or_true, List.set_set, ne_eq, not_false_eq_true, Fin.isValue, Fin.val_zero, Fin.val_one, Fin.val_two, reduceCtorEq, Option.map_some, List.length_set, Nat.zero_lt_succ, Option.toList_some, Option.toList_none, List.cons_append, List.nil_append, px_b_2, IA, LA, BA, ZA, QA, PT, DR, TL, MC, CD, CC, false_and, or_false, false_or, nar_b, nar_0, nar_1, nar_y]) | (refine ⟨_, rfl, by omega, ?_⟩) | (refine ⟨fun h => absurd h (nI_nlt (by omega) (by omega)), fun _ => ?_⟩) | (refine ⟨fun _ => ?_, fun h => absurd h (nI_nlt (by omega) (by omega))⟩) | (refine ⟨fun h => absurd (nI_lt (by omega) (by omega)) h, fun _ => ?_⟩) | (refine ⟨fun _ => ?_, fun h => absurd (nI_lt (by omega) (by omega)) h⟩) | (refine ⟨fun h => absurd ((nI_eq (by omega) (by omega)).mp h) (by omega), fun _ => ?_⟩) | (refine ⟨fun _ => ?_, fun h => absurd ((nI_eq (by omega) (by omega)).mp h) (by omega)⟩) | (refine ⟨fun h => absurd h (by decide), fun _ => ?_⟩) | (refine ⟨fun _ => ?_, fun h => absurd h (by decide)⟩) | (refine ⟨fun h => absurd rfl h, fun _ => ?_⟩) | (refine ⟨fun _ => ?_, fun h => absurd rfl h⟩)))
      exact px_return rfl rfl (Nat.le_refl _) (Nat.le_refl _) hq
    | succ r ih =>
      intro i ow' l5 l6 ph' hi hai h5 hf hM hS
      have inner : ∀ (q k : Nat) (ow' : Nat → Bool) (l6 : Option Value) (ph' : List px_E), k + q = 3 → fr (FS os) ph ph' → MW dp fo fl le ow c a p i k ow' → sW ph' os c fo dp fl B le ow' D ps → px_W G mX9_markOnWay (d + 1) 0 0 Q 0 0 12 [some (.ref os), some (.int (nI a)), some (.int (nI e)), some (.int (nI p)), some (.int (nI i)), some (.int (nI k)), l6] [] ph' := by
        intro q
        induction q with
        | zero =>
          intro k ow' l6 ph' hk hf hM hS
          have e1 : k = 3 := by omega
          have hih := ih (i + 1) ow' (some (.int (nI k))) l6 ph' (by omega) (by omega) (Or.inr ⟨_, rfl⟩) hf (MW_up (Or.inl e1) hai hM) hS
          subst e1
          (repeat (first | (exact hih) | (refine px_st rfl rfl ?_; simp only [px_wp, px_at, px_set, px_set2, px_clr, px_ldi, px_ldl, px_lda, px_i1, px_i2, px_l1, px_l2, px_il, px_a1, px_r1, px_r2, px_ir, px_vir, px_g, px_v1, px_v2, px_gf, px_pf, px_ps, px_ar, px_nth, px_upd, px_zero, px_dfl, px_put_self, px_put_ne, px_sw, nI_add, pk_mul, true_and, and_true, Nat.reduceAdd, Nat.reduceLT, Nat.reduceEqDiff, List.length_cons, List.length_nil, true_or, or_true, List.set_set, ne_eq, not_false_eq_true, Fin.isValue, Fin.val_zero, Fin.val_one, Fin.val_two, reduceCtorEq, Option.map_some, List.length_set, Nat.zero_lt_succ, Option.toList_some, Option.toList_none, List.cons_append, List.nil_append, px_b_2, IA, LA, BA, ZA, QA, PT, DR, TL, MC, CD, CC, false_and, or_false, false_or, nar_b, nar_0, nar_1, nar_y]) | (refine ⟨_, rfl, by omega, ?_⟩) | (refine ⟨fun h => absurd h (nI_nlt (by omega) (by omega)), fun _ => ?_⟩) | (refine ⟨fun _ => ?_, fun h => absurd h (nI_nlt (by omega) (by omega))⟩) | (refine ⟨fun h => absurd (nI_lt (by omega) (by omega)) h, fun _ => ?_⟩) | (refine ⟨fun _ => ?_, fun h => absurd (nI_lt (by omega) (by omega)) h⟩) | (refine ⟨fun h => absurd ((nI_eq (by omega) (by omega)).mp h) (by omega), fun _ => ?_⟩) | (refine ⟨fun _ => ?_, fun h => absurd ((nI_eq (by omega) (by omega)).mp h) (by omega)⟩) | (refine ⟨fun h => absurd h (by decide), fun _ => ?_⟩) | (refine ⟨fun _ => ?_, fun h => absurd h (by decide)⟩) | (refine ⟨fun h => absurd rfl h, fun _ => ?_⟩) | (refine ⟨fun _ => ?_, fun h => absurd rfl h⟩)))
        | succ q ih2 =>
          intro k ow' l6 ph' hk hf hM hS
          have hk3 : k < 3 := by omega
          have hS0 := hS
          obtain ⟨k0, k1, f, dd, m, fw, pa, k2, k3, k4, k5, k6, v1, v2⟩ := hS
          obtain ⟨w1, w2, w3, w4⟩ := v1 i (by omega)
          have e4 := mN_4 (B i) (le i) (ow' i)
          have howi : ow' i = ow i := by
            have h1 := hM i (by omega)
            cases hq : ow i with
            | true => exact h1.mpr (Or.inl hq)
            | false =>
              cases hq' : ow' i with
              | false => rfl
              | true =>
                rcases h1.mp hq' with z | ⟨i', k', hb', hc', -⟩
                · rw [hq] at z; cases z
                · have q1 := hc'.2.2.1
                  have q2 := hdl i hai (by omega)
                  have q3 := hdl i' hb'.1 (by have := hb'.2.1; omega)
                  omega
          rw [howi] at w3 e4
          cases how : ow i with
          | false =>
            have hih := ih (i + 1) ow' (some (.int (nI k))) l6 ph' (by omega) (by omega) (Or.inr ⟨_, rfl⟩) hf (MW_up (Or.inr how) hai hM) hS0
            rw [how] at w3 e4
            have e4 : nI (mN (B i) (le i) false) &&& nI 4 = nI 0 := e4
            (repeat (first | (exact hih) | (refine px_st rfl rfl ?_; simp only [px_wp, px_at, px_set, px_set2, px_clr, px_ldi, px_ldl, px_lda, px_i1, px_i2, px_l1, px_l2, px_il, px_a1, px_r1, px_r2, px_ir, px_vir, px_g, px_v1, px_v2, px_gf, px_pf, px_ps, px_ar, px_nth, px_upd, px_zero, px_dfl, px_put_self, px_put_ne, px_sw, nI_add, pk_mul, true_and, and_true, Nat.reduceAdd, Nat.reduceLT, Nat.reduceEqDiff, List.length_cons, List.length_nil, true_or, or_true, List.set_set, ne_eq, not_false_eq_true, Fin.isValue, Fin.val_zero, Fin.val_one, Fin.val_two, reduceCtorEq, Option.map_some, List.length_set, Nat.zero_lt_succ, Option.toList_some, Option.toList_none, List.cons_append, List.nil_append, px_b_2, IA, LA, BA, ZA, QA, PT, DR, TL, MC, CD, CC, false_and, or_false, false_or, nar_b, nar_0, nar_1, nar_y, k0, SP, k4, w3, e4]) | (refine ⟨_, rfl, by omega, ?_⟩) | (refine ⟨fun h => absurd h (nI_nlt (by omega) (by omega)), fun _ => ?_⟩) | (refine ⟨fun _ => ?_, fun h => absurd h (nI_nlt (by omega) (by omega))⟩) | (refine ⟨fun h => absurd (nI_lt (by omega) (by omega)) h, fun _ => ?_⟩) | (refine ⟨fun _ => ?_, fun h => absurd (nI_lt (by omega) (by omega)) h⟩) | (refine ⟨fun h => absurd ((nI_eq (by omega) (by omega)).mp h) (by omega), fun _ => ?_⟩) | (refine ⟨fun _ => ?_, fun h => absurd ((nI_eq (by omega) (by omega)).mp h) (by omega)⟩) | (refine ⟨fun h => absurd h (by decide), fun _ => ?_⟩) | (refine ⟨fun _ => ?_, fun h => absurd h (by decide)⟩) | (refine ⟨fun h => absurd rfl h, fun _ => ?_⟩) | (refine ⟨fun _ => ?_, fun h => absurd rfl h⟩)))
          | true =>
            rw [how] at w3 e4
            have e4 : nI (mN (B i) (le i) true) &&& nI 4 = nI 4 := e4
            have w4 := w4 k hk3
            (repeat (first | (refine px_st rfl rfl ?_; simp only [px_wp, px_at, px_set, px_set2, px_clr, px_ldi, px_ldl, px_lda, px_i1, px_i2, px_l1, px_l2, px_il, px_a1, px_r1, px_r2, px_ir, px_vir, px_g, px_v1, px_v2, px_gf, px_pf, px_ps, px_ar, px_nth, px_upd, px_zero, px_dfl, px_put_self, px_put_ne, px_sw, nI_add, pk_mul, true_and, and_true, Nat.reduceAdd, Nat.reduceLT, Nat.reduceEqDiff, List.length_cons, List.length_nil, true_or, or_true, List.set_set, ne_eq, not_false_eq_true, Fin.isValue, Fin.val_zero, Fin.val_one, Fin.val_two, reduceCtorEq, Option.map_some, List.length_set, Nat.zero_lt_succ, Option.toList_some, Option.toList_none, List.cons_append, List.nil_append, px_b_2, IA, LA, BA, ZA, QA, PT, DR, TL, MC, CD, CC, false_and, or_false, false_or, nar_b, nar_0, nar_1, nar_y, k0, SP, k4, w3, e4, k5]) | (refine ⟨_, rfl, by omega, ?_⟩) | (refine ⟨fun h => absurd h (nI_nlt (by omega) (by omega)), fun _ => ?_⟩) | (refine ⟨fun _ => ?_, fun h => absurd h (nI_nlt (by omega) (by omega))⟩) | (refine ⟨fun h => absurd (nI_lt (by omega) (by omega)) h, fun _ => ?_⟩) | (refine ⟨fun _ => ?_, fun h => absurd (nI_lt (by omega) (by omega)) h⟩) | (refine ⟨fun h => absurd ((nI_eq (by omega) (by omega)).mp h) (by omega), fun _ => ?_⟩) | (refine ⟨fun _ => ?_, fun h => absurd ((nI_eq (by omega) (by omega)).mp h) (by omega)⟩) | (refine ⟨fun h => absurd h (by decide), fun _ => ?_⟩) | (refine ⟨fun _ => ?_, fun h => absurd h (by decide)⟩) | (refine ⟨fun h => absurd rfl h, fun _ => ?_⟩) | (refine ⟨fun _ => ?_, fun h => absurd rfl h⟩)))
            refine px_cV rfl rfl kX9_leadsOn rfl (c_S_leadsOn (d := d) hS0 hb (show i < c by omega) hk3 ?_) (Nat.le_refl _) k0 rfl rfl rfl (Nat.le_of_ble_eq_true rfl) (Nat.zero_le _) (Nat.zero_le _)
            cases hl : lO dp fl le i k with
            | false =>
              have hih := ih2 (k + 1) ow' (some (.int (fw (i * 3 + k)))) ph' (by omega) hf (MW_no hk3 hai (fun t q => absurd q (lO_f hl)) hM) hS0
              (repeat (first | (exact hih) | (refine px_st rfl rfl ?_; simp only [px_wp, px_at, px_set, px_set2, px_clr, px_ldi, px_ldl, px_lda, px_i1, px_i2, px_l1, px_l2, px_il, px_a1, px_r1, px_r2, px_ir, px_vir, px_g, px_v1, px_v2, px_gf, px_pf, px_ps, px_ar, px_nth, px_upd, px_zero, px_dfl, px_put_self, px_put_ne, px_sw, nI_add, pk_mul, true_and, and_true, Nat.reduceAdd, Nat.reduceLT, Nat.reduceEqDiff, List.length_cons, List.length_nil, true_or, or_true, List.set_set, ne_eq, not_false_eq_true, Fin.isValue, Fin.val_zero, Fin.val_one, Fin.val_two, reduceCtorEq, Option.map_some, List.length_set, Nat.zero_lt_succ, Option.toList_some, Option.toList_none, List.cons_append, List.nil_append, px_b_2, IA, LA, BA, ZA, QA, PT, DR, TL, MC, CD, CC, false_and, or_false, false_or, nar_b, nar_0, nar_1, nar_y]) | (refine ⟨_, rfl, by omega, ?_⟩) | (refine ⟨fun h => absurd h (nI_nlt (by omega) (by omega)), fun _ => ?_⟩) | (refine ⟨fun _ => ?_, fun h => absurd h (nI_nlt (by omega) (by omega))⟩) | (refine ⟨fun h => absurd (nI_lt (by omega) (by omega)) h, fun _ => ?_⟩) | (refine ⟨fun _ => ?_, fun h => absurd (nI_lt (by omega) (by omega)) h⟩) | (refine ⟨fun h => absurd ((nI_eq (by omega) (by omega)).mp h) (by omega), fun _ => ?_⟩) | (refine ⟨fun _ => ?_, fun h => absurd ((nI_eq (by omega) (by omega)).mp h) (by omega)⟩) | (refine ⟨fun h => absurd h (by decide), fun _ => ?_⟩) | (refine ⟨fun _ => ?_, fun h => absurd h (by decide)⟩) | (refine ⟨fun h => absurd rfl h, fun _ => ?_⟩) | (refine ⟨fun _ => ?_, fun h => absurd rfl h⟩)))
            | true =>
              obtain ⟨t, t1, t2, t3⟩ := lO_t hl
              rw [t1] at w4
              have w4 : fw (i * 3 + k) = nI t := w4
              rw [w4]
              have htc := (hb.2 i (by omega)).2.2 k hk3 t t1
              obtain ⟨x1, x2, x3, -⟩ := v1 t htc
              have hfo := (hb.2 t htc).1
              have hpl := sPl_lt (fo t)
              (repeat (first | (refine px_st rfl rfl ?_; simp only [px_wp, px_at, px_set, px_set2, px_clr, px_ldi, px_ldl, px_lda, px_i1, px_i2, px_l1, px_l2, px_il, px_a1, px_r1, px_r2, px_ir, px_vir, px_g, px_v1, px_v2, px_gf, px_pf, px_ps, px_ar, px_nth, px_upd, px_zero, px_dfl, px_put_self, px_put_ne, px_sw, nI_add, pk_mul, true_and, and_true, Nat.reduceAdd, Nat.reduceLT, Nat.reduceEqDiff, List.length_cons, List.length_nil, true_or, or_true, List.set_set, ne_eq, not_false_eq_true, Fin.isValue, Fin.val_zero, Fin.val_one, Fin.val_two, reduceCtorEq, Option.map_some, List.length_set, Nat.zero_lt_succ, Option.toList_some, Option.toList_none, List.cons_append, List.nil_append, px_b_2, IA, LA, BA, ZA, QA, PT, DR, TL, MC, CD, CC, false_and, or_false, false_or, nar_b, nar_0, nar_1, nar_y, k0, SP, k2, x1]) | (refine ⟨_, rfl, by omega, ?_⟩) | (refine ⟨fun h => absurd h (nI_nlt (by omega) (by omega)), fun _ => ?_⟩) | (refine ⟨fun _ => ?_, fun h => absurd h (nI_nlt (by omega) (by omega))⟩) | (refine ⟨fun h => absurd (nI_lt (by omega) (by omega)) h, fun _ => ?_⟩) | (refine ⟨fun _ => ?_, fun h => absurd (nI_lt (by omega) (by omega)) h⟩) | (refine ⟨fun h => absurd ((nI_eq (by omega) (by omega)).mp h) (by omega), fun _ => ?_⟩) | (refine ⟨fun _ => ?_, fun h => absurd ((nI_eq (by omega) (by omega)).mp h) (by omega)⟩) | (refine ⟨fun h => absurd h (by decide), fun _ => ?_⟩) | (refine ⟨fun _ => ?_, fun h => absurd h (by decide)⟩) | (refine ⟨fun h => absurd rfl h, fun _ => ?_⟩) | (refine ⟨fun _ => ?_, fun h => absurd rfl h⟩)))
              rw [x1]
              refine px_cS rfl rfl kX9_placeOf rfl (c_H_placeOf (by omega) ?_) (Nat.le_refl _) rfl rfl (Nat.le_of_ble_eq_true rfl) (Nat.zero_le _) (Nat.zero_le _)
              by_cases hpe : sPl (fo t) = p
              · rw [hpe]
                have eo := mN_o4 (B t) (le t) (ow' t)
                have hS1 := sW_mark (le' := le) (ow' := va_up ow' t true) hS0 k4 htc (fun b _ z => ⟨rfl, va_up_n z⟩)
                rw [va_up_s] at hS1
                have hih := ih2 (k + 1) _ (some (.int (nI t))) _ (by omega) (fr_tr hf (fs_set fr_id (show os ≤ os + 4 ∧ os + 4 ≤ os + 6 by omega))) (MW_yes hk3 hai ⟨how, t1, t2, t3⟩ hpe hM) hS1
                (repeat (first | (exact hih) | (refine px_st rfl rfl ?_; simp only [px_wp, px_at, px_set, px_set2, px_clr, px_ldi, px_ldl, px_lda, px_i1, px_i2, px_l1, px_l2, px_il, px_a1, px_r1, px_r2, px_ir, px_vir, px_g, px_v1, px_v2, px_gf, px_pf, px_ps, px_ar, px_nth, px_upd, px_zero, px_dfl, px_put_self, px_put_ne, px_sw, nI_add, pk_mul, true_and, and_true, Nat.reduceAdd, Nat.reduceLT, Nat.reduceEqDiff, List.length_cons, List.length_nil, true_or, or_true, List.set_set, ne_eq, not_false_eq_true, Fin.isValue, Fin.val_zero, Fin.val_one, Fin.val_two, reduceCtorEq, Option.map_some, List.length_set, Nat.zero_lt_succ, Option.toList_some, Option.toList_none, List.cons_append, List.nil_append, px_b_2, IA, LA, BA, ZA, QA, PT, DR, TL, MC, CD, CC, false_and, or_false, false_or, nar_b, nar_0, nar_1, nar_y, k0, SP, k4, x3, eo]) | (refine ⟨_, rfl, by omega, ?_⟩) | (refine ⟨fun h => absurd h (nI_nlt (by omega) (by omega)), fun _ => ?_⟩) | (refine ⟨fun _ => ?_, fun h => absurd h (nI_nlt (by omega) (by omega))⟩) | (refine ⟨fun h => absurd (nI_lt (by omega) (by omega)) h, fun _ => ?_⟩) | (refine ⟨fun _ => ?_, fun h => absurd (nI_lt (by omega) (by omega)) h⟩) | (refine ⟨fun h => absurd ((nI_eq (by omega) (by omega)).mp h) (by omega), fun _ => ?_⟩) | (refine ⟨fun _ => ?_, fun h => absurd ((nI_eq (by omega) (by omega)).mp h) (by omega)⟩) | (refine ⟨fun h => absurd h (by decide), fun _ => ?_⟩) | (refine ⟨fun _ => ?_, fun h => absurd h (by decide)⟩) | (refine ⟨fun h => absurd rfl h, fun _ => ?_⟩) | (refine ⟨fun _ => ?_, fun h => absurd rfl h⟩)))
              · have hih := ih2 (k + 1) ow' (some (.int (nI t))) ph' (by omega) hf (MW_no hk3 hai (fun t' q => by
                  have h1 := q.2.1
                  rw [t1] at h1
                  cases h1
                  exact hpe) hM) hS0
                (repeat (first | (exact hih) | (refine px_st rfl rfl ?_; simp only [px_wp, px_at, px_set, px_set2, px_clr, px_ldi, px_ldl, px_lda, px_i1, px_i2, px_l1, px_l2, px_il, px_a1, px_r1, px_r2, px_ir, px_vir, px_g, px_v1, px_v2, px_gf, px_pf, px_ps, px_ar, px_nth, px_upd, px_zero, px_dfl, px_put_self, px_put_ne, px_sw, nI_add, pk_mul, true_and, and_true, Nat.reduceAdd, Nat.reduceLT, Nat.reduceEqDiff, List.length_cons, List.length_nil, true_or, or_true, List.set_set, ne_eq, not_false_eq_true, Fin.isValue, Fin.val_zero, Fin.val_one, Fin.val_two, reduceCtorEq, Option.map_some, List.length_set, Nat.zero_lt_succ, Option.toList_some, Option.toList_none, List.cons_append, List.nil_append, px_b_2, IA, LA, BA, ZA, QA, PT, DR, TL, MC, CD, CC, false_and, or_false, false_or, nar_b, nar_0, nar_1, nar_y]) | (refine ⟨_, rfl, by omega, ?_⟩) | (refine ⟨fun h => absurd h (nI_nlt (by omega) (by omega)), fun _ => ?_⟩) | (refine ⟨fun _ => ?_, fun h => absurd h (nI_nlt (by omega) (by omega))⟩) | (refine ⟨fun h => absurd (nI_lt (by omega) (by omega)) h, fun _ => ?_⟩) | (refine ⟨fun _ => ?_, fun h => absurd (nI_lt (by omega) (by omega)) h⟩) | (refine ⟨fun h => absurd ((nI_eq (by omega) (by omega)).mp h) (by omega), fun _ => ?_⟩) | (refine ⟨fun _ => ?_, fun h => absurd ((nI_eq (by omega) (by omega)).mp h) (by omega)⟩) | (refine ⟨fun h => absurd h (by decide), fun _ => ?_⟩) | (refine ⟨fun _ => ?_, fun h => absurd h (by decide)⟩) | (refine ⟨fun h => absurd rfl h, fun _ => ?_⟩) | (refine ⟨fun _ => ?_, fun h => absurd rfl h⟩)))
      have hin := inner 3 0 ow' l6 ph' (by omega) hf hM hS
      rcases h5 with rfl | ⟨x, rfl⟩
      · (repeat (first | (exact hin) | (refine px_st rfl rfl ?_; simp only [px_wp, px_at, px_set, px_set2, px_clr, px_ldi, px_ldl, px_lda, px_i1, px_i2, px_l1, px_l2, px_il, px_a1, px_r1, px_r2, px_ir, px_vir, px_g, px_v1, px_v2, px_gf, px_pf, px_ps, px_ar, px_nth, px_upd, px_zero, px_dfl, px_put_self, px_put_ne, px_sw, nI_add, pk_mul, true_and, and_true, Nat.reduceAdd, Nat.reduceLT, Nat.reduceEqDiff, List.length_cons, List.length_nil, true_or, or_true, List.set_set, ne_eq, not_false_eq_true, Fin.isValue, Fin.val_zero, Fin.val_one, Fin.val_two, reduceCtorEq, Option.map_some, List.length_set, Nat.zero_lt_succ, Option.toList_some, Option.toList_none, List.cons_append, List.nil_append, px_b_2, IA, LA, BA, ZA, QA, PT, DR, TL, MC, CD, CC, false_and, or_false, false_or, nar_b, nar_0, nar_1, nar_y]) | (refine ⟨_, rfl, by omega, ?_⟩) | (refine ⟨fun h => absurd h (nI_nlt (by omega) (by omega)), fun _ => ?_⟩) | (refine ⟨fun _ => ?_, fun h => absurd h (nI_nlt (by omega) (by omega))⟩) | (refine ⟨fun h => absurd (nI_lt (by omega) (by omega)) h, fun _ => ?_⟩) | (refine ⟨fun _ => ?_, fun h => absurd (nI_lt (by omega) (by omega)) h⟩) | (refine ⟨fun h => absurd ((nI_eq (by omega) (by omega)).mp h) (by omega), fun _ => ?_⟩) | (refine ⟨fun _ => ?_, fun h => absurd ((nI_eq (by omega) (by omega)).mp h) (by omega)⟩) | (refine ⟨fun h => absurd h (by decide), fun _ => ?_⟩) | (refine ⟨fun _ => ?_, fun h => absurd h (by decide)⟩) | (refine ⟨fun h => absurd rfl h, fun _ => ?_⟩) | (refine ⟨fun _ => ?_, fun h => absurd rfl h⟩)))
      · (repeat (first | (exact hin) | (refine px_st rfl rfl ?_; simp only [px_wp, px_at, px_set, px_set2, px_clr, px_ldi, px_ldl, px_lda, px_i1, px_i2, px_l1, px_l2, px_il, px_a1, px_r1, px_r2, px_ir, px_vir, px_g, px_v1, px_v2, px_gf, px_pf, px_ps, px_ar, px_nth, px_upd, px_zero, px_dfl, px_put_self, px_put_ne, px_sw, nI_add, pk_mul, true_and, and_true, Nat.reduceAdd, Nat.reduceLT, Nat.reduceEqDiff, List.length_cons, List.length_nil, true_or, or_true, List.set_set, ne_eq, not_false_eq_true, Fin.isValue, Fin.val_zero, Fin.val_one, Fin.val_two, reduceCtorEq, Option.map_some, List.length_set, Nat.zero_lt_succ, Option.toList_some, Option.toList_none, List.cons_append, List.nil_append, px_b_2, IA, LA, BA, ZA, QA, PT, DR, TL, MC, CD, CC, false_and, or_false, false_or, nar_b, nar_0, nar_1, nar_y]) | (refine ⟨_, rfl, by omega, ?_⟩) | (refine ⟨fun h => absurd h (nI_nlt (by omega) (by omega)), fun _ => ?_⟩) | (refine ⟨fun _ => ?_, fun h => absurd h (nI_nlt (by omega) (by omega))⟩) | (refine ⟨fun h => absurd (nI_lt (by omega) (by omega)) h, fun _ => ?_⟩) | (refine ⟨fun _ => ?_, fun h => absurd (nI_lt (by omega) (by omega)) h⟩) | (refine ⟨fun h => absurd ((nI_eq (by omega) (by omega)).mp h) (by omega), fun _ => ?_⟩) | (refine ⟨fun _ => ?_, fun h => absurd ((nI_eq (by omega) (by omega)).mp h) (by omega)⟩) | (refine ⟨fun h => absurd h (by decide), fun _ => ?_⟩) | (refine ⟨fun _ => ?_, fun h => absurd h (by decide)⟩) | (refine ⟨fun h => absurd rfl h, fun _ => ?_⟩) | (refine ⟨fun _ => ?_, fun h => absurd rfl h⟩)))
  have hl := loop (e - a) a ow none none ph (by omega) (Nat.le_refl _) (Or.inl rfl) fr_id (fun t ht => ⟨fun z => Or.inl z, fun z => by
    rcases z with z | ⟨i', k', hb', -⟩
    · exact z
    · have := hb'.1
      have := hb'.2.1
      omega⟩) h
  refine px_start kX9_markOnWay (Nat.le_of_ble_eq_true rfl) ?_
  show px_W G _ _ _ _ _ 0 0 0 [some (.ref os), some (.int (nI a)), some (.int (nI e)), some (.int (nI p)), none, none, none] [] ph
  (repeat (first | (exact hl) | (refine px_st rfl rfl ?_; simp only [px_wp, px_at, px_set, px_set2, px_clr, px_ldi, px_ldl, px_lda, px_i1, px_i2, px_l1, px_l2, px_il, px_a1, px_r1, px_r2, px_ir, px_vir, px_g, px_v1, px_v2, px_gf, px_pf, px_ps, px_ar, px_nth, px_upd, px_zero, px_dfl, px_put_self, px_put_ne, px_sw, nI_add, pk_mul, true_and, and_true, Nat.reduceAdd, Nat.reduceLT, Nat.reduceEqDiff, List.length_cons, List.length_nil, true_or, or_true, List.set_set, ne_eq, not_false_eq_true, Fin.isValue, Fin.val_zero, Fin.val_one, Fin.val_two, reduceCtorEq, Option.map_some, List.length_set, Nat.zero_lt_succ, Option.toList_some, Option.toList_none, List.cons_append, List.nil_append, px_b_2, IA, LA, BA, ZA, QA, PT, DR, TL, MC, CD, CC, false_and, or_false, false_or, nar_b, nar_0, nar_1, nar_y]) | (refine ⟨_, rfl, by omega, ?_⟩) | (refine ⟨fun h => absurd h (nI_nlt (by omega) (by omega)), fun _ => ?_⟩) | (refine ⟨fun _ => ?_, fun h => absurd h (nI_nlt (by omega) (by omega))⟩) | (refine ⟨fun h => absurd (nI_lt (by omega) (by omega)) h, fun _ => ?_⟩) | (refine ⟨fun _ => ?_, fun h => absurd (nI_lt (by omega) (by omega)) h⟩) | (refine ⟨fun h => absurd ((nI_eq (by omega) (by omega)).mp h) (by omega), fun _ => ?_⟩) | (refine ⟨fun _ => ?_, fun h => absurd ((nI_eq (by omega) (by omega)).mp h) (by omega)⟩) | (refine ⟨fun h => absurd h (by decide), fun _ => ?_⟩) | (refine ⟨fun _ => ?_, fun h => absurd h (by decide)⟩) | (refine ⟨fun h => absurd rfl h, fun _ => ?_⟩) | (refine ⟨fun _ => ?_, fun h => absurd rfl h⟩)))
end WAD
