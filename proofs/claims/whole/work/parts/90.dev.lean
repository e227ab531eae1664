/-- one stands on the way, and the one behind it leads on -/
def cD0 (dp : Nat → Nat) (fl : Nat → Option Nat) (le ow : Nat → Bool) (i k t : Nat) : Prop := ow i = true ∧ fl (i * 3 + k) = some t ∧ dp t = dp i + 1 ∧ le t = true
/-- the pairs ahead of (i, k), from a place on -/
def bfP (a i k i' k' : Nat) : Prop := a ≤ i' ∧ (i' < i ∨ (i' = i ∧ k' < k)) ∧ k' < 3
def lPB (dp fo : Nat → Nat) (fl : Nat → Option Nat) (le ow : Nat → Bool) (a i k ls : Nat) : Prop := (∀ i' k' t, bfP a i k i' k' → cD0 dp fl le ow i' k' t → ls ≤ sPl (fo t)) ∧ (ls = 32 ∨ ∃ i' k' t, bfP a i k i' k' ∧ cD0 dp fl le ow i' k' t ∧ ls = sPl (fo t))
def MW (dp fo : Nat → Nat) (fl : Nat → Option Nat) (le ow : Nat → Bool) (c a p i k : Nat) (ow' : Nat → Bool) : Prop := ∀ t, t < c → (ow' t = true ↔ (ow t = true ∨ ∃ i' k', bfP a i k i' k' ∧ cD0 dp fl le ow i' k' t ∧ sPl (fo t) = p))
section WLP
variable {c a i k ls p : Nat} {fo dp : Nat → Nat} {fl : Nat → Option Nat} {le ow ow' : Nat → Bool}
theorem bf_up (h : k = 3 ∨ ow i = false) (hai : a ≤ i) {i' k' t : Nat} (hc : cD0 dp fl le ow i' k' t) : bfP a (i + 1) 0 i' k' ↔ bfP a i k i' k' := by
  constructor
  · rintro ⟨h1, h2, h3⟩
    refine ⟨h1, ?_, h3⟩
    rcases Nat.lt_or_ge i' i with q | q
    · exact Or.inl q
    · have e : i' = i := by omega
      subst e
      rcases h with h | h
      · exact Or.inr ⟨rfl, by omega⟩
      · rw [hc.1] at h; cases h
  · rintro ⟨h1, h2, h3⟩
    exact ⟨h1, Or.inl (by omega), h3⟩
theorem lPB_up (h : k = 3 ∨ ow i = false) (hai : a ≤ i) (hL : lPB dp fo fl le ow a i k ls) : lPB dp fo fl le ow a (i + 1) 0 ls := by
  refine ⟨fun i' k' t hb hc => hL.1 i' k' t ((bf_up h hai hc).mp hb) hc, ?_⟩
  rcases hL.2 with q | ⟨i', k', t, hb, hc, e⟩
  · exact Or.inl q
  · exact Or.inr ⟨i', k', t, (bf_up h hai hc).mpr hb, hc, e⟩
theorem MW_up (h : k = 3 ∨ ow i = false) (hai : a ≤ i) (hM : MW dp fo fl le ow c a p i k ow') : MW dp fo fl le ow c a p (i + 1) 0 ow' := by
  intro t ht
  rw [hM t ht]
  constructor
  · rintro (q | ⟨i', k', hb, hc, e⟩)
    · exact Or.inl q
    · exact Or.inr ⟨i', k', (bf_up h hai hc).mpr hb, hc, e⟩
  · rintro (q | ⟨i', k', hb, hc, e⟩)
    · exact Or.inl q
    · exact Or.inr ⟨i', k', (bf_up h hai hc).mp hb, hc, e⟩
theorem bf_k {i' k' : Nat} (hk : k < 3) (hai : a ≤ i) : bfP a i (k + 1) i' k' ↔ bfP a i k i' k' ∨ (i' = i ∧ k' = k) := by
  unfold bfP
  omega
theorem lO_t (h : lO dp fl le i k = true) : ∃ t, fl (i * 3 + k) = some t ∧ dp t = dp i + 1 ∧ le t = true := by
  unfold lO at h
  cases hf : fl (i * 3 + k) with
  | none => rw [hf] at h; cases h
  | some t =>
    rw [hf] at h
    simp only [Bool.and_eq_true, decide_eq_true_eq] at h
    exact ⟨t, rfl, h.1, h.2⟩
theorem lO_f (h : lO dp fl le i k = false) {t : Nat} : ¬ cD0 dp fl le ow i k t := fun q => by
  unfold lO at h
  rw [q.2.1] at h
  simp only at h
  rw [decide_eq_true q.2.2.1, q.2.2.2] at h
  cases h
theorem lPB_no (hk : k < 3) (hai : a ≤ i) (h : ∀ t, ¬ cD0 dp fl le ow i k t) (hL : lPB dp fo fl le ow a i k ls) : lPB dp fo fl le ow a i (k + 1) ls := by
  refine ⟨fun i' k' t hb hc => ?_, ?_⟩
  · rcases (bf_k hk hai).mp hb with q | ⟨rfl, rfl⟩
    · exact hL.1 i' k' t q hc
    · exact absurd hc (h t)
  · rcases hL.2 with q | ⟨i', k', t, hb, hc, e⟩
    · exact Or.inl q
    · exact Or.inr ⟨i', k', t, (bf_k hk hai).mpr (Or.inl hb), hc, e⟩
theorem lPB_yes {t : Nat} (hk : k < 3) (hai : a ≤ i) (h : cD0 dp fl le ow i k t) (hL : lPB dp fo fl le ow a i k ls) : lPB dp fo fl le ow a i (k + 1) (if sPl (fo t) < ls then sPl (fo t) else ls) := by
  refine ⟨fun i' k' t' hb hc => ?_, ?_⟩
  · rcases (bf_k hk hai).mp hb with q | ⟨rfl, rfl⟩
    · have := hL.1 i' k' t' q hc
      split <;> omega
    · have e : t' = t := by
        have h1 := hc.2.1
        rw [h.2.1] at h1
        cases h1
        rfl
      subst e
      split <;> omega
  · by_cases hlt : sPl (fo t) < ls
    · rw [if_pos hlt]
      exact Or.inr ⟨i, k, t, (bf_k hk hai).mpr (Or.inr ⟨rfl, rfl⟩), h, rfl⟩
    · rw [if_neg hlt]
      rcases hL.2 with q | ⟨i', k', t', hb, hc, e⟩
      · exact Or.inl q
      · exact Or.inr ⟨i', k', t', (bf_k hk hai).mpr (Or.inl hb), hc, e⟩
theorem MW_no (hk : k < 3) (hai : a ≤ i) (h : ∀ t, cD0 dp fl le ow i k t → ¬ sPl (fo t) = p) (hM : MW dp fo fl le ow c a p i k ow') : MW dp fo fl le ow c a p i (k + 1) ow' := by
  intro t ht
  rw [hM t ht]
  constructor
  · rintro (q | ⟨i', k', hb, hc, e⟩)
    · exact Or.inl q
    · exact Or.inr ⟨i', k', (bf_k hk hai).mpr (Or.inl hb), hc, e⟩
  · rintro (q | ⟨i', k', hb, hc, e⟩)
    · exact Or.inl q
    · rcases (bf_k hk hai).mp hb with q | ⟨rfl, rfl⟩
      · exact Or.inr ⟨i', k', q, hc, e⟩
      · exact absurd e (h t hc)
theorem MW_yes {t : Nat} (hk : k < 3) (hai : a ≤ i) (h : cD0 dp fl le ow i k t) (e : sPl (fo t) = p) (hM : MW dp fo fl le ow c a p i k ow') : MW dp fo fl le ow c a p i (k + 1) (va_up ow' t true) := by
  intro t' ht'
  by_cases q : t' = t
  · subst q
    rw [va_up_s]
    exact ⟨fun _ => Or.inr ⟨i, k, (bf_k hk hai).mpr (Or.inr ⟨rfl, rfl⟩), h, e⟩, fun _ => rfl⟩
  · rw [va_up_n q, hM t' ht']
    constructor
    · rintro (r | ⟨i', k', hb, hc, e⟩)
      · exact Or.inl r
      · exact Or.inr ⟨i', k', (bf_k hk hai).mpr (Or.inl hb), hc, e⟩
    · rintro (r | ⟨i', k', hb, hc, e'⟩)
      · exact Or.inl r
      · rcases (bf_k hk hai).mp hb with r | ⟨rfl, rfl⟩
        · exact Or.inr ⟨i', k', r, hc, e'⟩
        · have h1 := hc.2.1
          rw [h.2.1] at h1
          cases h1
          exact absurd rfl q
end WLP
section WAD
variable {G : px_G} {ph : List px_E} {d : Nat} {Q : Option Value → List px_E → Prop} {os c D N : Nat} {fo dp ps : Nat → Nat} {fl : Nat → Option Nat} {B le ow : Nat → Bool} {a e : Nat}
set_option maxRecDepth 100000 in
set_option maxHeartbeats 4000000 in
theorem c_S_leastPlaceBehind (h : sW ph os c fo dp fl B le ow D ps) (hb : sB c fo dp fl) (hae : a ≤ e) (he : e ≤ c) (hQ : ∀ ls, ls ≤ 32 → lPB dp fo fl le ow a e 0 ls → Q (some (.int (nI ls))) ph) : px_Met G mX9_leastPlaceBehind (d + 1) 0 0 [.ref os, .int (nI a), .int (nI e)] ph Q := by
  have hS0 := h
  obtain ⟨k0, k1, f, dd, m, fw, pa, k2, k3, k4, k5, k6, v1, v2⟩ := h
  have hc := hb.1
  have loop : ∀ (r i ls : Nat) (l5 : Option Value), i + r = e → a ≤ i → ls ≤ 32 → lPB dp fo fl le ow a i 0 ls → px_W G mX9_leastPlaceBehind (d + 1) 0 0 Q 0 0 6 [some (.ref os), some (.int (nI a)), some (.int (nI e)), some (.int (nI ls)), some (.int (nI i)), l5] [] ph := by
    intro r
    induction r with
    | zero =>
      intro i ls l5 hi hai hls hL
      have e1 : i = e := by omega
      subst e1
      have hq := hQ ls hls hL
      (repeat (first | (refine px_st rfl rfl ?_; simp only [px_wp, px_at, px_set, px_set2, px_clr, px_ldi, px_ldl, px_lda, px_i1, px_i2, px_l1, px_l2, px_il, px_a1, px_r1, px_r2, px_ir, px_vir, px_g, px_v1, px_v2, px_gf, px_pf, px_ps, px_ar, px_nth, px_upd, px_zero, px_dfl, px_put_self, px_put_ne, px_sw, nI_add, pk_mul, true_and, and_true, Nat.reduceAdd, Nat.reduceLT, Nat.reduceEqDiff, List.length_cons, List.length_nil, true_or, or_true, List.set_set, ne_eq, not_false_eq_true, Fin.isValue, Fin.val_zero, Fin.val_one, Fin.val_two, reduceCtorEq, Option.map_some, List.length_set, Nat.zero_lt_succ, Option.toList_some, Option.toList_none, List.cons_append, List.nil_append, px_b_2, IA, LA, BA, ZA, QA, PT, DR, TL, MC, CD, CC, false_and, or_false, false_or, nar_b, nar_0, nar_1, nar_y]) | (refine ⟨_, rfl, by omega, ?_⟩) | (refine ⟨fun h => absurd h (nI_nlt (by omega) (by omega)), fun _ => ?_⟩) | (refine ⟨fun _ => ?_, fun h => absurd h (nI_nlt (by omega) (by omega))⟩) | (refine ⟨fun h => absurd (nI_lt (by omega) (by omega)) h, fun _ => ?_⟩) | (refine ⟨fun _ => ?_, fun h => absurd (nI_lt (by omega) (by omega)) h⟩) | (refine ⟨fun h => absurd ((nI_eq (by omega) (by omega)).mp h) (by omega), fun _ => ?_⟩) | (refine ⟨fun _ => ?_, fun h => absurd ((nI_eq (by omega) (by omega)).mp h) (by omega)⟩) | (refine ⟨fun h => absurd h (by decide), fun _ => ?_⟩) | (refine ⟨fun _ => ?_, fun h => absurd h (by decide)⟩) | (refine ⟨fun h => absurd rfl h, fun _ => ?_⟩) | (refine ⟨fun _ => ?_, fun h => absurd rfl h⟩)))
      exact px_ireturn rfl (Or.inl rfl) (Nat.le_refl _) (Nat.le_refl _) hq
    | succ r ih =>
      intro i ls l5 hi hai hls hL
      obtain ⟨w1, w2, w3, w4⟩ := v1 i (by omega)
      have e4 := mN_4 (B i) (le i) (ow i)
      have inner : ∀ (q k ls : Nat), k + q = 3 → ls ≤ 32 → lPB dp fo fl le ow a i k ls → px_W G mX9_leastPlaceBehind (d + 1) 0 0 Q 0 0 15 [some (.ref os), some (.int (nI a)), some (.int (nI e)), some (.int (nI ls)), some (.int (nI i)), some (.int (nI k))] [] ph := by
        intro q
        induction q with
        | zero =>
          intro k ls hk hls hL
          have e1 : k = 3 := by omega
          have hih := ih (i + 1) ls (some (.int (nI k))) (by omega) (by omega) hls (lPB_up (Or.inl e1) hai hL)
          subst e1
          (repeat (first | (exact hih) | (refine px_st rfl rfl ?_; simp only [px_wp, px_at, px_set, px_set2, px_clr, px_ldi, px_ldl, px_lda, px_i1, px_i2, px_l1, px_l2, px_il, px_a1, px_r1, px_r2, px_ir, px_vir, px_g, px_v1, px_v2, px_gf, px_pf, px_ps, px_ar, px_nth, px_upd, px_zero, px_dfl, px_put_self, px_put_ne, px_sw, nI_add, pk_mul, true_and, and_true, Nat.reduceAdd, Nat.reduceLT, Nat.reduceEqDiff, List.length_cons, List.length_nil, true_or, or_true, List.set_set, ne_eq, not_false_eq_true, Fin.isValue, Fin.val_zero, Fin.val_one, Fin.val_two, reduceCtorEq, Option.map_some, List.length_set, Nat.zero_lt_succ, Option.toList_some, Option.toList_none, List.cons_append, List.nil_append, px_b_2, IA, LA, BA, ZA, QA, PT, DR, TL, MC, CD, CC, false_and, or_false, false_or, nar_b, nar_0, nar_1, nar_y]) | (refine ⟨_, rfl, by omega, ?_⟩) | (refine ⟨fun h => absurd h (nI_nlt (by omega) (by omega)), fun _ => ?_⟩) | (refine ⟨fun _ => ?_, fun h => absurd h (nI_nlt (by omega) (by omega))⟩) | (refine ⟨fun h => absurd (nI_lt (by omega) (by omega)) h, fun _ => ?_⟩) | (refine ⟨fun _ => ?_, fun h => absurd (nI_lt (by omega) (by omega)) h⟩) | (refine ⟨fun h => absurd ((nI_eq (by omega) (by omega)).mp h) (by omega), fun _ => ?_⟩) | (refine ⟨fun _ => ?_, fun h => absurd ((nI_eq (by omega) (by omega)).mp h) (by omega)⟩) | (refine ⟨fun h => absurd h (by decide), fun _ => ?_⟩) | (refine ⟨fun _ => ?_, fun h => absurd h (by decide)⟩) | (refine ⟨fun h => absurd rfl h, fun _ => ?_⟩) | (refine ⟨fun _ => ?_, fun h => absurd rfl h⟩)))
        | succ q ih2 =>
          intro k ls hk hls hL
          have hk3 : k < 3 := by omega
          cases how : ow i with
          | false =>
            have hih := ih (i + 1) ls (some (.int (nI k))) (by omega) (by omega) hls (lPB_up (Or.inr how) hai hL)
            rw [how] at w3 e4
            have e4 : nI (mN (B i) (le i) false) &&& nI 4 = nI 0 := e4
            (repeat (first | (exact hih) | (refine px_st rfl rfl ?_; simp only [px_wp, px_at, px_set, px_set2, px_clr, px_ldi, px_ldl, px_lda, px_i1, px_i2, px_l1, px_l2, px_il, px_a1, px_r1, px_r2, px_ir, px_vir, px_g, px_v1, px_v2, px_gf, px_pf, px_ps, px_ar, px_nth, px_upd, px_zero, px_dfl, px_put_self, px_put_ne, px_sw, nI_add, pk_mul, true_and, and_true, Nat.reduceAdd, Nat.reduceLT, Nat.reduceEqDiff, List.length_cons, List.length_nil, true_or, or_true, List.set_set, ne_eq, not_false_eq_true, Fin.isValue, Fin.val_zero, Fin.val_one, Fin.val_two, reduceCtorEq, Option.map_some, List.length_set, Nat.zero_lt_succ, Option.toList_some, Option.toList_none, List.cons_append, List.nil_append, px_b_2, IA, LA, BA, ZA, QA, PT, DR, TL, MC, CD, CC, false_and, or_false, false_or, nar_b, nar_0, nar_1, nar_y, k0, SP, k4, w3, e4]) | (refine ⟨_, rfl, by omega, ?_⟩) | (refine ⟨fun h => absurd h (nI_nlt (by omega) (by omega)), fun _ => ?_⟩) | (refine ⟨fun _ => ?_, fun h => absurd h (nI_nlt (by omega) (by omega))⟩) | (refine ⟨fun h => absurd (nI_lt (by omega) (by omega)) h, fun _ => ?_⟩) | (refine ⟨fun _ => ?_, fun h => absurd (nI_lt (by omega) (by omega)) h⟩) | (refine ⟨fun h => absurd ((nI_eq (by omega) (by omega)).mp h) (by omega), fun _ => ?_⟩) | (refine ⟨fun _ => ?_, fun h => absurd ((nI_eq (by omega) (by omega)).mp h) (by omega)⟩) | (refine ⟨fun h => absurd h (by decide), fun _ => ?_⟩) | (refine ⟨fun _ => ?_, fun h => absurd h (by decide)⟩) | (refine ⟨fun h => absurd rfl h, fun _ => ?_⟩) | (refine ⟨fun _ => ?_, fun h => absurd rfl h⟩)))
          | true =>
            rw [how] at w3 e4
            have e4 : nI (mN (B i) (le i) true) &&& nI 4 = nI 4 := e4
            (repeat (first | (refine px_st rfl rfl ?_; simp only [px_wp, px_at, px_set, px_set2, px_clr, px_ldi, px_ldl, px_lda, px_i1, px_i2, px_l1, px_l2, px_il, px_a1, px_r1, px_r2, px_ir, px_vir, px_g, px_v1, px_v2, px_gf, px_pf, px_ps, px_ar, px_nth, px_upd, px_zero, px_dfl, px_put_self, px_put_ne, px_sw, nI_add, pk_mul, true_and, and_true, Nat.reduceAdd, Nat.reduceLT, Nat.reduceEqDiff, List.length_cons, List.length_nil, true_or, or_true, List.set_set, ne_eq, not_false_eq_true, Fin.isValue, Fin.val_zero, Fin.val_one, Fin.val_two, reduceCtorEq, Option.map_some, List.length_set, Nat.zero_lt_succ, Option.toList_some, Option.toList_none, List.cons_append, List.nil_append, px_b_2, IA, LA, BA, ZA, QA, PT, DR, TL, MC, CD, CC, false_and, or_false, false_or, nar_b, nar_0, nar_1, nar_y, k0, SP, k4, w3, e4]) | (refine ⟨_, rfl, by omega, ?_⟩) | (refine ⟨fun h => absurd h (nI_nlt (by omega) (by omega)), fun _ => ?_⟩) | (refine ⟨fun _ => ?_, fun h => absurd h (nI_nlt (by omega) (by omega))⟩) | (refine ⟨fun h => absurd (nI_lt (by omega) (by omega)) h, fun _ => ?_⟩) | (refine ⟨fun _ => ?_, fun h => absurd (nI_lt (by omega) (by omega)) h⟩) | (refine ⟨fun h => absurd ((nI_eq (by omega) (by omega)).mp h) (by omega), fun _ => ?_⟩) | (refine ⟨fun _ => ?_, fun h => absurd ((nI_eq (by omega) (by omega)).mp h) (by omega)⟩) | (refine ⟨fun h => absurd h (by decide), fun _ => ?_⟩) | (refine ⟨fun _ => ?_, fun h => absurd h (by decide)⟩) | (refine ⟨fun h => absurd rfl h, fun _ => ?_⟩) | (refine ⟨fun _ => ?_, fun h => absurd rfl h⟩)))
            refine px_cV rfl rfl kX9_leadsOn rfl (c_S_leadsOn (d := d) hS0 hb (show i < c by omega) hk3 ?_) (Nat.le_refl _) k0 rfl rfl rfl (Nat.le_of_ble_eq_true rfl) (Nat.zero_le _) (Nat.zero_le _)
            cases hl : lO dp fl le i k with
            | false =>
              have hih := ih2 (k + 1) ls (by omega) hls (lPB_no hk3 hai (fun t => lO_f hl) hL)
              (repeat (first | (exact hih) | (refine px_st rfl rfl ?_; simp only [px_wp, px_at, px_set, px_set2, px_clr, px_ldi, px_ldl, px_lda, px_i1, px_i2, px_l1, px_l2, px_il, px_a1, px_r1, px_r2, px_ir, px_vir, px_g, px_v1, px_v2, px_gf, px_pf, px_ps, px_ar, px_nth, px_upd, px_zero, px_dfl, px_put_self, px_put_ne, px_sw, nI_add, pk_mul, true_and, and_true, Nat.reduceAdd, Nat.reduceLT, Nat.reduceEqDiff, List.length_cons, List.length_nil, true_or, or_true, List.set_set, ne_eq, not_false_eq_true, Fin.isValue, Fin.val_zero, Fin.val_one, Fin.val_two, reduceCtorEq, Option.map_some, List.length_set, Nat.zero_lt_succ, Option.toList_some, Option.toList_none, List.cons_append, List.nil_append, px_b_2, IA, LA, BA, ZA, QA, PT, DR, TL, MC, CD, CC, false_and, or_false, false_or, nar_b, nar_0, nar_1, nar_y]) | (refine ⟨_, rfl, by omega, ?_⟩) | (refine ⟨fun h => absurd h (nI_nlt (by omega) (by omega)), fun _ => ?_⟩) | (refine ⟨fun _ => ?_, fun h => absurd h (nI_nlt (by omega) (by omega))⟩) | (refine ⟨fun h => absurd (nI_lt (by omega) (by omega)) h, fun _ => ?_⟩) | (refine ⟨fun _ => ?_, fun h => absurd (nI_lt (by omega) (by omega)) h⟩) | (refine ⟨fun h => absurd ((nI_eq (by omega) (by omega)).mp h) (by omega), fun _ => ?_⟩) | (refine ⟨fun _ => ?_, fun h => absurd ((nI_eq (by omega) (by omega)).mp h) (by omega)⟩) | (refine ⟨fun h => absurd h (by decide), fun _ => ?_⟩) | (refine ⟨fun _ => ?_, fun h => absurd h (by decide)⟩) | (refine ⟨fun h => absurd rfl h, fun _ => ?_⟩) | (refine ⟨fun _ => ?_, fun h => absurd rfl h⟩)))
            | true =>
              obtain ⟨t, t1, t2, t3⟩ := lO_t hl
              have w4 := w4 k hk3
              rw [t1] at w4
              have w4 : fw (i * 3 + k) = nI t := w4
              have htc := (hb.2 i (by omega)).2.2 k hk3 t t1
              obtain ⟨x1, -⟩ := v1 t htc
              have hfo := (hb.2 t htc).1
              have hpl := sPl_lt (fo t)
              (repeat (first | (refine px_st rfl rfl ?_; simp only [px_wp, px_at, px_set, px_set2, px_clr, px_ldi, px_ldl, px_lda, px_i1, px_i2, px_l1, px_l2, px_il, px_a1, px_r1, px_r2, px_ir, px_vir, px_g, px_v1, px_v2, px_gf, px_pf, px_ps, px_ar, px_nth, px_upd, px_zero, px_dfl, px_put_self, px_put_ne, px_sw, nI_add, pk_mul, true_and, and_true, Nat.reduceAdd, Nat.reduceLT, Nat.reduceEqDiff, List.length_cons, List.length_nil, true_or, or_true, List.set_set, ne_eq, not_false_eq_true, Fin.isValue, Fin.val_zero, Fin.val_one, Fin.val_two, reduceCtorEq, Option.map_some, List.length_set, Nat.zero_lt_succ, Option.toList_some, Option.toList_none, List.cons_append, List.nil_append, px_b_2, IA, LA, BA, ZA, QA, PT, DR, TL, MC, CD, CC, false_and, or_false, false_or, nar_b, nar_0, nar_1, nar_y, k0, SP, k5, w4, k2, x1]) | (refine ⟨_, rfl, by omega, ?_⟩) | (refine ⟨fun h => absurd h (nI_nlt (by omega) (by omega)), fun _ => ?_⟩) | (refine ⟨fun _ => ?_, fun h => absurd h (nI_nlt (by omega) (by omega))⟩) | (refine ⟨fun h => absurd (nI_lt (by omega) (by omega)) h, fun _ => ?_⟩) | (refine ⟨fun _ => ?_, fun h => absurd (nI_lt (by omega) (by omega)) h⟩) | (refine ⟨fun h => absurd ((nI_eq (by omega) (by omega)).mp h) (by omega), fun _ => ?_⟩) | (refine ⟨fun _ => ?_, fun h => absurd ((nI_eq (by omega) (by omega)).mp h) (by omega)⟩) | (refine ⟨fun h => absurd h (by decide), fun _ => ?_⟩) | (refine ⟨fun _ => ?_, fun h => absurd h (by decide)⟩) | (refine ⟨fun h => absurd rfl h, fun _ => ?_⟩) | (refine ⟨fun _ => ?_, fun h => absurd rfl h⟩)))
              rw [x1]
              refine px_cS rfl rfl kX9_placeOf rfl (c_H_placeOf (by omega) ?_) (Nat.le_refl _) rfl rfl (Nat.le_of_ble_eq_true rfl) (Nat.zero_le _) (Nat.zero_le _)
              refine px_min rfl (by omega) (by omega) (by omega) (Nat.le_of_ble_eq_true rfl) ?_
              have hih := ih2 (k + 1) (if sPl (fo t) < ls then sPl (fo t) else ls) (by omega) (by split <;> omega) (lPB_yes hk3 hai ⟨how, t1, t2, t3⟩ hL)
              have emin : (if nI (sPl (fo t)) < nI ls then nI (sPl (fo t)) else nI ls) = nI (if sPl (fo t) < ls then sPl (fo t) else ls) := by
                by_cases z : sPl (fo t) < ls
                · rw [if_pos z, if_pos (nI_lt z (by omega))]
                · rw [if_neg z, if_neg (nI_nlt (by omega) (by omega))]
              rw [emin]
              (repeat (first | (exact hih) | (refine px_st rfl rfl ?_; simp only [px_wp, px_at, px_set, px_set2, px_clr, px_ldi, px_ldl, px_lda, px_i1, px_i2, px_l1, px_l2, px_il, px_a1, px_r1, px_r2, px_ir, px_vir, px_g, px_v1, px_v2, px_gf, px_pf, px_ps, px_ar, px_nth, px_upd, px_zero, px_dfl, px_put_self, px_put_ne, px_sw, nI_add, pk_mul, true_and, and_true, Nat.reduceAdd, Nat.reduceLT, Nat.reduceEqDiff, List.length_cons, List.length_nil, true_or, or_true, List.set_set, ne_eq, not_false_eq_true, Fin.isValue, Fin.val_zero, Fin.val_one, Fin.val_two, reduceCtorEq, Option.map_some, List.length_set, Nat.zero_lt_succ, Option.toList_some, Option.toList_none, List.cons_append, List.nil_append, px_b_2, IA, LA, BA, ZA, QA, PT, DR, TL, MC, CD, CC, false_and, or_false, false_or, nar_b, nar_0, nar_1, nar_y]) | (refine ⟨_, rfl, by omega, ?_⟩) | (refine ⟨fun h => absurd h (nI_nlt (by omega) (by omega)), fun _ => ?_⟩) | (refine ⟨fun _ => ?_, fun h => absurd h (nI_nlt (by omega) (by omega))⟩) | (refine ⟨fun h => absurd (nI_lt (by omega) (by omega)) h, fun _ => ?_⟩) | (refine ⟨fun _ => ?_, fun h => absurd (nI_lt (by omega) (by omega)) h⟩) | (refine ⟨fun h => absurd ((nI_eq (by omega) (by omega)).mp h) (by omega), fun _ => ?_⟩) | (refine ⟨fun _ => ?_, fun h => absurd ((nI_eq (by omega) (by omega)).mp h) (by omega)⟩) | (refine ⟨fun h => absurd h (by decide), fun _ => ?_⟩) | (refine ⟨fun _ => ?_, fun h => absurd h (by decide)⟩) | (refine ⟨fun h => absurd rfl h, fun _ => ?_⟩) | (refine ⟨fun _ => ?_, fun h => absurd rfl h⟩)))
      have hin := inner 3 0 ls (by omega) hls hL
      (repeat (first | (exact hin) | (refine px_st rfl rfl ?_; simp only [px_wp, px_at, px_set, px_set2, px_clr, px_ldi, px_ldl, px_lda, px_i1, px_i2, px_l1, px_l2, px_il, px_a1, px_r1, px_r2, px_ir, px_vir, px_g, px_v1, px_v2, px_gf, px_pf, px_ps, px_ar, px_nth, px_upd, px_zero, px_dfl, px_put_self, px_put_ne, px_sw, nI_add, pk_mul, true_and, and_true, Nat.reduceAdd, Nat.reduceLT, Nat.reduceEqDiff, List.length_cons, List.length_nil, true_or, or_true, List.set_set, ne_eq, not_false_eq_true, Fin.isValue, Fin.val_zero, Fin.val_one, Fin.val_two, reduceCtorEq, Option.map_some, List.length_set, Nat.zero_lt_succ, Option.toList_some, Option.toList_none, List.cons_append, List.nil_append, px_b_2, IA, LA, BA, ZA, QA, PT, DR, TL, MC, CD, CC, false_and, or_false, false_or, nar_b, nar_0, nar_1, nar_y]) | (refine ⟨_, rfl, by omega, ?_⟩) | (refine ⟨fun h => absurd h (nI_nlt (by omega) (by omega)), fun _ => ?_⟩) | (refine ⟨fun _ => ?_, fun h => absurd h (nI_nlt (by omega) (by omega))⟩) | (refine ⟨fun h => absurd (nI_lt (by omega) (by omega)) h, fun _ => ?_⟩) | (refine ⟨fun _ => ?_, fun h => absurd (nI_lt (by omega) (by omega)) h⟩) | (refine ⟨fun h => absurd ((nI_eq (by omega) (by omega)).mp h) (by omega), fun _ => ?_⟩) | (refine ⟨fun _ => ?_, fun h => absurd ((nI_eq (by omega) (by omega)).mp h) (by omega)⟩) | (refine ⟨fun h => absurd h (by decide), fun _ => ?_⟩) | (refine ⟨fun _ => ?_, fun h => absurd h (by decide)⟩) | (refine ⟨fun h => absurd rfl h, fun _ => ?_⟩) | (refine ⟨fun _ => ?_, fun h => absurd rfl h⟩)))
  have hl := loop (e - a) a 32 none (by omega) (Nat.le_refl _) (by omega) ⟨fun i' k' t hb' _ => by
    have := hb'.1
    have := hb'.2.1
    omega, Or.inl rfl⟩
  refine px_start kX9_leastPlaceBehind (Nat.le_of_ble_eq_true rfl) ?_
  show px_W G _ _ _ _ _ 0 0 0 [some (.ref os), some (.int (nI a)), some (.int (nI e)), none, none, none] [] ph
  (repeat (first | (exact hl) | (refine px_st rfl rfl ?_; simp only [px_wp, px_at, px_set, px_set2, px_clr, px_ldi, px_ldl, px_lda, px_i1, px_i2, px_l1, px_l2, px_il, px_a1, px_r1, px_r2, px_ir, px_vir, px_g, px_v1, px_v2, px_gf, px_pf, px_ps, px_ar, px_nth, px_upd, px_zero, px_dfl, px_put_self, px_put_ne, px_sw, nI_add, pk_mul, true_and, and_true, Nat.reduceAdd, Nat.reduceLT, Nat.reduceEqDiff, List.length_cons, List.length_nil, true_or, or_true, List.set_set, ne_eq, not_false_eq_true, Fin.isValue, Fin.val_zero, Fin.val_one, Fin.val_two, reduceCtorEq, Option.map_some, List.length_set, Nat.zero_lt_succ, Option.toList_some, Option.toList_none, List.cons_append, List.nil_append, px_b_2, IA, LA, BA, ZA, QA, PT, DR, TL, MC, CD, CC, false_and, or_false, false_or, nar_b, nar_0, nar_1, nar_y]) | (refine ⟨_, rfl, by omega, ?_⟩) | (refine ⟨fun h => absurd h (nI_nlt (by omega) (by omega)), fun _ => ?_⟩) | (refine ⟨fun _ => ?_, fun h => absurd h (nI_nlt (by omega) (by omega))⟩) | (refine ⟨fun h => absurd (nI_lt (by omega) (by omega)) h, fun _ => ?_⟩) | (refine ⟨fun _ => ?_, fun h => absurd (nI_lt (by omega) (by omega)) h⟩) | (refine ⟨fun h => absurd ((nI_eq (by omega) (by omega)).mp h) (by omega), fun _ => ?_⟩) | (refine ⟨fun _ => ?_, fun h => absurd ((nI_eq (by omega) (by omega)).mp h) (by omega)⟩) | (refine ⟨fun h => absurd h (by decide), fun _ => ?_⟩) | (refine ⟨fun _ => ?_, fun h => absurd h (by decide)⟩) | (refine ⟨fun h => absurd rfl h, fun _ => ?_⟩) | (refine ⟨fun _ => ?_, fun h => absurd rfl h⟩)))
set_option maxRecDepth 100000 in
set_option maxHeartbeats 4000000 in
theorem c_S_markOnWay {p dl : Nat} (h : sW ph os c fo dp fl B le ow D ps) (hb : sB c fo dp fl) (hae : a ≤ e) (he : e ≤ c) (hp : p ≤ 32) (hdl : ∀ i, a ≤ i → i < e → dp i = dl) (hQ : ∀ ow' ph', fr (FS os) ph ph' → MW dp fo fl le ow c a p e 0 ow' → sW ph' os c fo dp fl B le ow' D ps → Q none ph') : px_Met G mX9_markOnWay (d + 1) 0 0 [.ref os, .int (nI a), .int (nI e), .int (nI p)] ph Q := by
  have hc := hb.1
  have loop : ∀ (r i : Nat) (ow' : Nat → Bool) (l5 l6 : Option Value) (ph' : List px_E), i + r = e → a ≤ i → (l5 = none ∨ ∃ x, l5 = some (.int x)) → fr (FS os) ph ph' → MW dp fo fl le ow c a p i 0 ow' → sW ph' os c fo dp fl B le ow' D ps → px_W G mX9_markOnWay (d + 1) 0 0 Q 0 0 3 [some (.ref os), some (.int (nI a)), some (.int (nI e)), some (.int (nI p)), some (.int (nI i)), l5, l6] [] ph' := by
    intro r
    induction r with
    | zero =>
      intro i ow' l5 l6 ph' hi hai h5 hf hM hS
      have e1 : i = e := by omega
      subst e1
      have hq := hQ ow' ph' hf hM hS
      (repeat (first | (refine px_st rfl rfl ?_; simp only [px_wp, px_at, px_set, px_set2, px_clr, px_ldi, px_ldl, px_lda, px_i1, px_i2, px_l1, px_l2, px_il, px_a1, px_r1, px_r2, px_ir, px_vir, px_g, px_v1, px_v2, px_gf, px_pf, px_ps, px_ar, px_nth, px_upd, px_zero, px_dfl, px_put_self, px_put_ne, px_sw, nI_add, pk_mul, true_and, and_true, Nat.reduceAdd, Nat.reduceLT, Nat.reduceEqDiff, List.length_cons, List.length_nil, true_or, or_true, List.set_set, ne_eq, not_false_eq_true, Fin.isValue, Fin.val_zero, Fin.val_one, Fin.val_two, reduceCtorEq, Option.map_some, List.length_set, Nat.zero_lt_succ, Option.toList_some, Option.toList_none, List.cons_append, List.nil_append, px_b_2, IA, LA, BA, ZA, QA, PT, DR, TL, MC, CD, CC, false_and, or_false, false_or, nar_b, nar_0, nar_1, nar_y]) | (refine ⟨_, rfl, by omega, ?_⟩) | (refine ⟨fun h => absurd h (nI_nlt (by omega) (by omega)), fun _ => ?_⟩) | (refine ⟨fun _ => ?_, fun h => absurd h (nI_nlt (by omega) (by omega))⟩) | (refine ⟨fun h => absurd (nI_lt (by omega) (by omega)) h, fun _ => ?_⟩) | (refine ⟨fun _ => ?_, fun h => absurd (nI_lt (by omega) (by omega)) h⟩) | (refine ⟨fun h => absurd ((nI_eq (by omega) (by omega)).mp h) (by omega), fun _ => ?_⟩) | (refine ⟨fun _ => ?_, fun h => absurd ((nI_eq (by omega) (by omega)).mp h) (by omega)⟩) | (refine ⟨fun h => absurd h (by decide), fun _ => ?_⟩) | (refine ⟨fun _ => ?_, fun h => absurd h (by decide)⟩) | (refine ⟨fun h => absurd rfl h, fun _ => ?_⟩) | (refine ⟨fun _ => ?_, fun h => absurd rfl h⟩)))
      exact px_return rfl rfl (Nat.le_refl _) (Nat.le_refl _) hq
    | succ r ih =>
      intro i ow' l5 l6 ph' hi hai h5 hf hM hS
      have inner : ∀ (q k : Nat) (ow' : Nat → Bool) (l6 : Option Value) (ph' : List px_E), k + q = 3 → fr (FS os) ph ph' → MW dp fo fl le ow c a p i k ow' → sW ph' os c fo dp fl B le ow' D ps → px_W G mX9_markOnWay (d + 1) 0 0 Q 0 0 12 [some (.ref os), some (.int (nI a)), some (.int (nI e)), some (.int (nI p)), some (.int (nI i)), some (.int (nI k)), l6] [] ph' := by
        intro q
        induction q with
        | zero =>
          intro k ow' l6 ph' hk hf hM hS
          have e1 : k = 3 := by omega
          have hih := ih (i + 1) ow' (some (.int (nI k))) l6 ph' (by omega) (by omega) (Or.inr ⟨_, rfl⟩) hf (MW_up (Or.inl e1) hai hM) hS
          subst e1
          (repeat (first | (exact hih) | (refine px_st rfl rfl ?_; simp only [px_wp, px_at, px_set, px_set2, px_clr, px_ldi, px_ldl, px_lda, px_i1, px_i2, px_l1, px_l2, px_il, px_a1, px_r1, px_r2, px_ir, px_vir, px_g, px_v1, px_v2, px_gf, px_pf, px_ps, px_ar, px_nth, px_upd, px_zero, px_dfl, px_put_self, px_put_ne, px_sw, nI_add, pk_mul, true_and, and_true, Nat.reduceAdd, Nat.reduceLT, Nat.reduceEqDiff, List.length_cons, List.length_nil, true_or, or_true, List.set_set, ne_eq, not_false_eq_true, Fin.isValue, Fin.val_zero, Fin.val_one, Fin.val_two, reduceCtorEq, Option.map_some, List.length_set, Nat.zero_lt_succ, Option.toList_some, Option.toList_none, List.cons_append, List.nil_append, px_b_2, IA, LA, BA, ZA, QA, PT, DR, TL, MC, CD, CC, false_and, or_false, false_or, nar_b, nar_0, nar_1, nar_y]) | (refine ⟨_, rfl, by omega, ?_⟩) | (refine ⟨fun h => absurd h (nI_nlt (by omega) (by omega)), fun _ => ?_⟩) | (refine ⟨fun _ => ?_, fun h => absurd h (nI_nlt (by omega) (by omega))⟩) | (refine ⟨fun h => absurd (nI_lt (by omega) (by omega)) h, fun _ => ?_⟩) | (refine ⟨fun _ => ?_, fun h => absurd (nI_lt (by omega) (by omega)) h⟩) | (refine ⟨fun h => absurd ((nI_eq (by omega) (by omega)).mp h) (by omega), fun _ => ?_⟩) | (refine ⟨fun _ => ?_, fun h => absurd ((nI_eq (by omega) (by omega)).mp h) (by omega)⟩) | (refine ⟨fun h => absurd h (by decide), fun _ => ?_⟩) | (refine ⟨fun _ => ?_, fun h => absurd h (by decide)⟩) | (refine ⟨fun h => absurd rfl h, fun _ => ?_⟩) | (refine ⟨fun _ => ?_, fun h => absurd rfl h⟩)))
        | succ q ih2 =>
          intro k ow' l6 ph' hk hf hM hS
          have hk3 : k < 3 := by omega
          have hS0 := hS
          obtain ⟨k0, k1, f, dd, m, fw, pa, k2, k3, k4, k5, k6, v1, v2⟩ := hS
          obtain ⟨w1, w2, w3, w4⟩ := v1 i (by omega)
          have e4 := mN_4 (B i) (le i) (ow' i)
          have howi : ow' i = ow i := by
            have h1 := hM i (by omega)
            cases hq : ow i with
            | true => exact h1.mpr (Or.inl hq)
            | false =>
              cases hq' : ow' i with
              | false => rfl
              | true =>
                rcases h1.mp hq' with z | ⟨i', k', hb', hc', -⟩
                · rw [hq] at z; cases z
                · have q1 := hc'.2.2.1
                  have q2 := hdl i hai (by omega)
                  have q3 := hdl i' hb'.1 (by have := hb'.2.1; omega)
                  omega
          rw [howi] at w3 e4
          cases how : ow i with
          | false =>
            have hih := ih (i + 1) ow' (some (.int (nI k))) l6 ph' (by omega) (by omega) (Or.inr ⟨_, rfl⟩) hf (MW_up (Or.inr how) hai hM) hS0
            rw [how] at w3 e4
            have e4 : nI (mN (B i) (le i) false) &&& nI 4 = nI 0 := e4
            (repeat (first | (exact hih) | (refine px_st rfl rfl ?_; simp only [px_wp, px_at, px_set, px_set2, px_clr, px_ldi, px_ldl, px_lda, px_i1, px_i2, px_l1, px_l2, px_il, px_a1, px_r1, px_r2, px_ir, px_vir, px_g, px_v1, px_v2, px_gf, px_pf, px_ps, px_ar, px_nth, px_upd, px_zero, px_dfl, px_put_self, px_put_ne, px_sw, nI_add, pk_mul, true_and, and_true, Nat.reduceAdd, Nat.reduceLT, Nat.reduceEqDiff, List.length_cons, List.length_nil, true_or, or_true, List.set_set, ne_eq, not_false_eq_true, Fin.isValue, Fin.val_zero, Fin.val_one, Fin.val_two, reduceCtorEq, Option.map_some, List.length_set, Nat.zero_lt_succ, Option.toList_some, Option.toList_none, List.cons_append, List.nil_append, px_b_2, IA, LA, BA, ZA, QA, PT, DR, TL, MC, CD, CC, false_and, or_false, false_or, nar_b, nar_0, nar_1, nar_y, k0, SP, k4, w3, e4]) | (refine ⟨_, rfl, by omega, ?_⟩) | (refine ⟨fun h => absurd h (nI_nlt (by omega) (by omega)), fun _ => ?_⟩) | (refine ⟨fun _ => ?_, fun h => absurd h (nI_nlt (by omega) (by omega))⟩) | (refine ⟨fun h => absurd (nI_lt (by omega) (by omega)) h, fun _ => ?_⟩) | (refine ⟨fun _ => ?_, fun h => absurd (nI_lt (by omega) (by omega)) h⟩) | (refine ⟨fun h => absurd ((nI_eq (by omega) (by omega)).mp h) (by omega), fun _ => ?_⟩) | (refine ⟨fun _ => ?_, fun h => absurd ((nI_eq (by omega) (by omega)).mp h) (by omega)⟩) | (refine ⟨fun h => absurd h (by decide), fun _ => ?_⟩) | (refine ⟨fun _ => ?_, fun h => absurd h (by decide)⟩) | (refine ⟨fun h => absurd rfl h, fun _ => ?_⟩) | (refine ⟨fun _ => ?_, fun h => absurd rfl h⟩)))
          | true =>
            rw [how] at w3 e4
            have e4 : nI (mN (B i) (le i) true) &&& nI 4 = nI 4 := e4
            have w4 := w4 k hk3
            (repeat (first | (refine px_st rfl rfl ?_; simp only [px_wp, px_at, px_set, px_set2, px_clr, px_ldi, px_ldl, px_lda, px_i1, px_i2, px_l1, px_l2, px_il, px_a1, px_r1, px_r2, px_ir, px_vir, px_g, px_v1, px_v2, px_gf, px_pf, px_ps, px_ar, px_nth, px_upd, px_zero, px_dfl, px_put_self, px_put_ne, px_sw, nI_add, pk_mul, true_and, and_true, Nat.reduceAdd, Nat.reduceLT, Nat.reduceEqDiff, List.length_cons, List.length_nil, true_or, or_true, List.set_set, ne_eq, not_false_eq_true, Fin.isValue, Fin.val_zero, Fin.val_one, Fin.val_two, reduceCtorEq, Option.map_some, List.length_set, Nat.zero_lt_succ, Option.toList_some, Option.toList_none, List.cons_append, List.nil_append, px_b_2, IA, LA, BA, ZA, QA, PT, DR, TL, MC, CD, CC, false_and, or_false, false_or, nar_b, nar_0, nar_1, nar_y, k0, SP, k4, w3, e4, k5]) | (refine ⟨_, rfl, by omega, ?_⟩) | (refine ⟨fun h => absurd h (nI_nlt (by omega) (by omega)), fun _ => ?_⟩) | (refine ⟨fun _ => ?_, fun h => absurd h (nI_nlt (by omega) (by omega))⟩) | (refine ⟨fun h => absurd (nI_lt (by omega) (by omega)) h, fun _ => ?_⟩) | (refine ⟨fun _ => ?_, fun h => absurd (nI_lt (by omega) (by omega)) h⟩) | (refine ⟨fun h => absurd ((nI_eq (by omega) (by omega)).mp h) (by omega), fun _ => ?_⟩) | (refine ⟨fun _ => ?_, fun h => absurd ((nI_eq (by omega) (by omega)).mp h) (by omega)⟩) | (refine ⟨fun h => absurd h (by decide), fun _ => ?_⟩) | (refine ⟨fun _ => ?_, fun h => absurd h (by decide)⟩) | (refine ⟨fun h => absurd rfl h, fun _ => ?_⟩) | (refine ⟨fun _ => ?_, fun h => absurd rfl h⟩)))
            refine px_cV rfl rfl kX9_leadsOn rfl (c_S_leadsOn (d := d) hS0 hb (show i < c by omega) hk3 ?_) (Nat.le_refl _) k0 rfl rfl rfl (Nat.le_of_ble_eq_true rfl) (Nat.zero_le _) (Nat.zero_le _)
            cases hl : lO dp fl le i k with
            | false =>
              have hih := ih2 (k + 1) ow' (some (.int (fw (i * 3 + k)))) ph' (by omega) hf (MW_no hk3 hai (fun t q => absurd q (lO_f hl)) hM) hS0
              (repeat (first | (exact hih) | (refine px_st rfl rfl ?_; simp only [px_wp, px_at, px_set, px_set2, px_clr, px_ldi, px_ldl, px_lda, px_i1, px_i2, px_l1, px_l2, px_il, px_a1, px_r1, px_r2, px_ir, px_vir, px_g, px_v1, px_v2, px_gf, px_pf, px_ps, px_ar, px_nth, px_upd, px_zero, px_dfl, px_put_self, px_put_ne, px_sw, nI_add, pk_mul, true_and, and_true, Nat.reduceAdd, Nat.reduceLT, Nat.reduceEqDiff, List.length_cons, List.length_nil, true_or, or_true, List.set_set, ne_eq, not_false_eq_true, Fin.isValue, Fin.val_zero, Fin.val_one, Fin.val_two, reduceCtorEq, Option.map_some, List.length_set, Nat.zero_lt_succ, Option.toList_some, Option.toList_none, List.cons_append, List.nil_append, px_b_2, IA, LA, BA, ZA, QA, PT, DR, TL, MC, CD, CC, false_and, or_false, false_or, nar_b, nar_0, nar_1, nar_y]) | (refine ⟨_, rfl, by omega, ?_⟩) | (refine ⟨fun h => absurd h (nI_nlt (by omega) (by omega)), fun _ => ?_⟩) | (refine ⟨fun _ => ?_, fun h => absurd h (nI_nlt (by omega) (by omega))⟩) | (refine ⟨fun h => absurd (nI_lt (by omega) (by omega)) h, fun _ => ?_⟩) | (refine ⟨fun _ => ?_, fun h => absurd (nI_lt (by omega) (by omega)) h⟩) | (refine ⟨fun h => absurd ((nI_eq (by omega) (by omega)).mp h) (by omega), fun _ => ?_⟩) | (refine ⟨fun _ => ?_, fun h => absurd ((nI_eq (by omega) (by omega)).mp h) (by omega)⟩) | (refine ⟨fun h => absurd h (by decide), fun _ => ?_⟩) | (refine ⟨fun _ => ?_, fun h => absurd h (by decide)⟩) | (refine ⟨fun h => absurd rfl h, fun _ => ?_⟩) | (refine ⟨fun _ => ?_, fun h => absurd rfl h⟩)))
            | true =>
              obtain ⟨t, t1, t2, t3⟩ := lO_t hl
              rw [t1] at w4
              have w4 : fw (i * 3 + k) = nI t := w4
              rw [w4]
              have htc := (hb.2 i (by omega)).2.2 k hk3 t t1
              obtain ⟨x1, x2, x3, -⟩ := v1 t htc
              have hfo := (hb.2 t htc).1
              have hpl := sPl_lt (fo t)
              (repeat (first | (refine px_st rfl rfl ?_; simp only [px_wp, px_at, px_set, px_set2, px_clr, px_ldi, px_ldl, px_lda, px_i1, px_i2, px_l1, px_l2, px_il, px_a1, px_r1, px_r2, px_ir, px_vir, px_g, px_v1, px_v2, px_gf, px_pf, px_ps, px_ar, px_nth, px_upd, px_zero, px_dfl, px_put_self, px_put_ne, px_sw, nI_add, pk_mul, true_and, and_true, Nat.reduceAdd, Nat.reduceLT, Nat.reduceEqDiff, List.length_cons, List.length_nil, true_or, or_true, List.set_set, ne_eq, not_false_eq_true, Fin.isValue, Fin.val_zero, Fin.val_one, Fin.val_two, reduceCtorEq, Option.map_some, List.length_set, Nat.zero_lt_succ, Option.toList_some, Option.toList_none, List.cons_append, List.nil_append, px_b_2, IA, LA, BA, ZA, QA, PT, DR, TL, MC, CD, CC, false_and, or_false, false_or, nar_b, nar_0, nar_1, nar_y, k0, SP, k2, x1]) | (refine ⟨_, rfl, by omega, ?_⟩) | (refine ⟨fun h => absurd h (nI_nlt (by omega) (by omega)), fun _ => ?_⟩) | (refine ⟨fun _ => ?_, fun h => absurd h (nI_nlt (by omega) (by omega))⟩) | (refine ⟨fun h => absurd (nI_lt (by omega) (by omega)) h, fun _ => ?_⟩) | (refine ⟨fun _ => ?_, fun h => absurd (nI_lt (by omega) (by omega)) h⟩) | (refine ⟨fun h => absurd ((nI_eq (by omega) (by omega)).mp h) (by omega), fun _ => ?_⟩) | (refine ⟨fun _ => ?_, fun h => absurd ((nI_eq (by omega) (by omega)).mp h) (by omega)⟩) | (refine ⟨fun h => absurd h (by decide), fun _ => ?_⟩) | (refine ⟨fun _ => ?_, fun h => absurd h (by decide)⟩) | (refine ⟨fun h => absurd rfl h, fun _ => ?_⟩) | (refine ⟨fun _ => ?_, fun h => absurd rfl h⟩)))
              rw [x1]
              refine px_cS rfl rfl kX9_placeOf rfl (c_H_placeOf (by omega) ?_) (Nat.le_refl _) rfl rfl (Nat.le_of_ble_eq_true rfl) (Nat.zero_le _) (Nat.zero_le _)
              by_cases hpe : sPl (fo t) = p
              · rw [hpe]
                have eo := mN_o4 (B t) (le t) (ow' t)
                have hS1 := sW_mark (le' := le) (ow' := va_up ow' t true) hS0 k4 htc (fun b _ z => ⟨rfl, va_up_n z⟩)
                rw [va_up_s] at hS1
                have hih := ih2 (k + 1) _ (some (.int (nI t))) _ (by omega) (fr_tr hf (fs_set fr_id (show os ≤ os + 4 ∧ os + 4 ≤ os + 6 by omega))) (MW_yes hk3 hai ⟨how, t1, t2, t3⟩ hpe hM) hS1
                (repeat (first | (exact hih) | (refine px_st rfl rfl ?_; simp only [px_wp, px_at, px_set, px_set2, px_clr, px_ldi, px_ldl, px_lda, px_i1, px_i2, px_l1, px_l2, px_il, px_a1, px_r1, px_r2, px_ir, px_vir, px_g, px_v1, px_v2, px_gf, px_pf, px_ps, px_ar, px_nth, px_upd, px_zero, px_dfl, px_put_self, px_put_ne, px_sw, nI_add, pk_mul, true_and, and_true, Nat.reduceAdd, Nat.reduceLT, Nat.reduceEqDiff, List.length_cons, List.length_nil, true_or, or_true, List.set_set, ne_eq, not_false_eq_true, Fin.isValue, Fin.val_zero, Fin.val_one, Fin.val_two, reduceCtorEq, Option.map_some, List.length_set, Nat.zero_lt_succ, Option.toList_some, Option.toList_none, List.cons_append, List.nil_append, px_b_2, IA, LA, BA, ZA, QA, PT, DR, TL, MC, CD, CC, false_and, or_false, false_or, nar_b, nar_0, nar_1, nar_y, k0, SP, k4, x3, eo]) | (refine ⟨_, rfl, by omega, ?_⟩) | (refine ⟨fun h => absurd h (nI_nlt (by omega) (by omega)), fun _ => ?_⟩) | (refine ⟨fun _ => ?_, fun h => absurd h (nI_nlt (by omega) (by omega))⟩) | (refine ⟨fun h => absurd (nI_lt (by omega) (by omega)) h, fun _ => ?_⟩) | (refine ⟨fun _ => ?_, fun h => absurd (nI_lt (by omega) (by omega)) h⟩) | (refine ⟨fun h => absurd ((nI_eq (by omega) (by omega)).mp h) (by omega), fun _ => ?_⟩) | (refine ⟨fun _ => ?_, fun h => absurd ((nI_eq (by omega) (by omega)).mp h) (by omega)⟩) | (refine ⟨fun h => absurd h (by decide), fun _ => ?_⟩) | (refine ⟨fun _ => ?_, fun h => absurd h (by decide)⟩) | (refine ⟨fun h => absurd rfl h, fun _ => ?_⟩) | (refine ⟨fun _ => ?_, fun h => absurd rfl h⟩)))
              · have hih := ih2 (k + 1) ow' (some (.int (nI t))) ph' (by omega) hf (MW_no hk3 hai (fun t' q => by
                  have h1 := q.2.1
                  rw [t1] at h1
                  cases h1
                  exact hpe) hM) hS0
                (repeat (first | (exact hih) | (refine px_st rfl rfl ?_; simp only [px_wp, px_at, px_set, px_set2, px_clr, px_ldi, px_ldl, px_lda, px_i1, px_i2, px_l1, px_l2, px_il, px_a1, px_r1, px_r2, px_ir, px_vir, px_g, px_v1, px_v2, px_gf, px_pf, px_ps, px_ar, px_nth, px_upd, px_zero, px_dfl, px_put_self, px_put_ne, px_sw, nI_add, pk_mul, true_and, and_true, Nat.reduceAdd, Nat.reduceLT, Nat.reduceEqDiff, List.length_cons, List.length_nil, true_or, or_true, List.set_set, ne_eq, not_false_eq_true, Fin.isValue, Fin.val_zero, Fin.val_one, Fin.val_two, reduceCtorEq, Option.map_some, List.length_set, Nat.zero_lt_succ, Option.toList_some, Option.toList_none, List.cons_append, List.nil_append, px_b_2, IA, LA, BA, ZA, QA, PT, DR, TL, MC, CD, CC, false_and, or_false, false_or, nar_b, nar_0, nar_1, nar_y]) | (refine ⟨_, rfl, by omega, ?_⟩) | (refine ⟨fun h => absurd h (nI_nlt (by omega) (by omega)), fun _ => ?_⟩) | (refine ⟨fun _ => ?_, fun h => absurd h (nI_nlt (by omega) (by omega))⟩) | (refine ⟨fun h => absurd (nI_lt (by omega) (by omega)) h, fun _ => ?_⟩) | (refine ⟨fun _ => ?_, fun h => absurd (nI_lt (by omega) (by omega)) h⟩) | (refine ⟨fun h => absurd ((nI_eq (by omega) (by omega)).mp h) (by omega), fun _ => ?_⟩) | (refine ⟨fun _ => ?_, fun h => absurd ((nI_eq (by omega) (by omega)).mp h) (by omega)⟩) | (refine ⟨fun h => absurd h (by decide), fun _ => ?_⟩) | (refine ⟨fun _ => ?_, fun h => absurd h (by decide)⟩) | (refine ⟨fun h => absurd rfl h, fun _ => ?_⟩) | (refine ⟨fun _ => ?_, fun h => absurd rfl h⟩)))
      have hin := inner 3 0 ow' l6 ph' (by omega) hf hM hS
      rcases h5 with rfl | ⟨x, rfl⟩
      · (repeat (first | (exact hin) | (refine px_st rfl rfl ?_; simp only [px_wp, px_at, px_set, px_set2, px_clr, px_ldi, px_ldl, px_lda, px_i1, px_i2, px_l1, px_l2, px_il, px_a1, px_r1, px_r2, px_ir, px_vir, px_g, px_v1, px_v2, px_gf, px_pf, px_ps, px_ar, px_nth, px_upd, px_zero, px_dfl, px_put_self, px_put_ne, px_sw, nI_add, pk_mul, true_and, and_true, Nat.reduceAdd, Nat.reduceLT, Nat.reduceEqDiff, List.length_cons, List.length_nil, true_or, or_true, List.set_set, ne_eq, not_false_eq_true, Fin.isValue, Fin.val_zero, Fin.val_one, Fin.val_two, reduceCtorEq, Option.map_some, List.length_set, Nat.zero_lt_succ, Option.toList_some, Option.toList_none, List.cons_append, List.nil_append, px_b_2, IA, LA, BA, ZA, QA, PT, DR, TL, MC, CD, CC, false_and, or_false, false_or, nar_b, nar_0, nar_1, nar_y]) | (refine ⟨_, rfl, by omega, ?_⟩) | (refine ⟨fun h => absurd h (nI_nlt (by omega) (by omega)), fun _ => ?_⟩) | (refine ⟨fun _ => ?_, fun h => absurd h (nI_nlt (by omega) (by omega))⟩) | (refine ⟨fun h => absurd (nI_lt (by omega) (by omega)) h, fun _ => ?_⟩) | (refine ⟨fun _ => ?_, fun h => absurd (nI_lt (by omega) (by omega)) h⟩) | (refine ⟨fun h => absurd ((nI_eq (by omega) (by omega)).mp h) (by omega), fun _ => ?_⟩) | (refine ⟨fun _ => ?_, fun h => absurd ((nI_eq (by omega) (by omega)).mp h) (by omega)⟩) | (refine ⟨fun h => absurd h (by decide), fun _ => ?_⟩) | (refine ⟨fun _ => ?_, fun h => absurd h (by decide)⟩) | (refine ⟨fun h => absurd rfl h, fun _ => ?_⟩) | (refine ⟨fun _ => ?_, fun h => absurd rfl h⟩)))
      · (repeat (first | (exact hin) | (refine px_st rfl rfl ?_; simp only [px_wp, px_at, px_set, px_set2, px_clr, px_ldi, px_ldl, px_lda, px_i1, px_i2, px_l1, px_l2, px_il, px_a1, px_r1, px_r2, px_ir, px_vir, px_g, px_v1, px_v2, px_gf, px_pf, px_ps, px_ar, px_nth, px_upd, px_zero, px_dfl, px_put_self, px_put_ne, px_sw, nI_add, pk_mul, true_and, and_true, Nat.reduceAdd, Nat.reduceLT, Nat.reduceEqDiff, List.length_cons, List.length_nil, true_or, or_true, List.set_set, ne_eq, not_false_eq_true, Fin.isValue, Fin.val_zero, Fin.val_one, Fin.val_two, reduceCtorEq, Option.map_some, List.length_set, Nat.zero_lt_succ, Option.toList_some, Option.toList_none, List.cons_append, List.nil_append, px_b_2, IA, LA, BA, ZA, QA, PT, DR, TL, MC, CD, CC, false_and, or_false, false_or, nar_b, nar_0, nar_1, nar_y]) | (refine ⟨_, rfl, by omega, ?_⟩) | (refine ⟨fun h => absurd h (nI_nlt (by omega) (by omega)), fun _ => ?_⟩) | (refine ⟨fun _ => ?_, fun h => absurd h (nI_nlt (by omega) (by omega))⟩) | (refine ⟨fun h => absurd (nI_lt (by omega) (by omega)) h, fun _ => ?_⟩) | (refine ⟨fun _ => ?_, fun h => absurd (nI_lt (by omega) (by omega)) h⟩) | (refine ⟨fun h => absurd ((nI_eq (by omega) (by omega)).mp h) (by omega), fun _ => ?_⟩) | (refine ⟨fun _ => ?_, fun h => absurd ((nI_eq (by omega) (by omega)).mp h) (by omega)⟩) | (refine ⟨fun h => absurd h (by decide), fun _ => ?_⟩) | (refine ⟨fun _ => ?_, fun h => absurd h (by decide)⟩) | (refine ⟨fun h => absurd rfl h, fun _ => ?_⟩) | (refine ⟨fun _ => ?_, fun h => absurd rfl h⟩)))
  have hl := loop (e - a) a ow none none ph (by omega) (Nat.le_refl _) (Or.inl rfl) fr_id (fun t ht => ⟨fun z => Or.inl z, fun z => by
    rcases z with z | ⟨i', k', hb', -⟩
    · exact z
    · have := hb'.1
      have := hb'.2.1
      omega⟩) h
  refine px_start kX9_markOnWay (Nat.le_of_ble_eq_true rfl) ?_
  show px_W G _ _ _ _ _ 0 0 0 [some (.ref os), some (.int (nI a)), some (.int (nI e)), some (.int (nI p)), none, none, none] [] ph
  (repeat (first | (exact hl) | (refine px_st rfl rfl ?_; simp only [px_wp, px_at, px_set, px_set2, px_clr, px_ldi, px_ldl, px_lda, px_i1, px_i2, px_l1, px_l2, px_il, px_a1, px_r1, px_r2, px_ir, px_vir, px_g, px_v1, px_v2, px_gf, px_pf, px_ps, px_ar, px_nth, px_upd, px_zero, px_dfl, px_put_self, px_put_ne, px_sw, nI_add, pk_mul, true_and, and_true, Nat.reduceAdd, Nat.reduceLT, Nat.reduceEqDiff, List.length_cons, List.length_nil, true_or, or_true, List.set_set, ne_eq, not_false_eq_true, Fin.isValue, Fin.val_zero, Fin.val_one, Fin.val_two, reduceCtorEq, Option.map_some, List.length_set, Nat.zero_lt_succ, Option.toList_some, Option.toList_none, List.cons_append, List.nil_append, px_b_2, IA, LA, BA, ZA, QA, PT, DR, TL, MC, CD, CC, false_and, or_false, false_or, nar_b, nar_0, nar_1, nar_y]) | (refine ⟨_, rfl, by omega, ?_⟩) | (refine ⟨fun h => absurd h (nI_nlt (by omega) (by omega)), fun _ => ?_⟩) | (refine ⟨fun _ => ?_, fun h => absurd h (nI_nlt (by omega) (by omega))⟩) | (refine ⟨fun h => absurd (nI_lt (by omega) (by omega)) h, fun _ => ?_⟩) | (refine ⟨fun _ => ?_, fun h => absurd (nI_lt (by omega) (by omega)) h⟩) | (refine ⟨fun h => absurd ((nI_eq (by omega) (by omega)).mp h) (by omega), fun _ => ?_⟩) | (refine ⟨fun _ => ?_, fun h => absurd ((nI_eq (by omega) (by omega)).mp h) (by omega)⟩) | (refine ⟨fun h => absurd h (by decide), fun _ => ?_⟩) | (refine ⟨fun _ => ?_, fun h => absurd h (by decide)⟩) | (refine ⟨fun h => absurd rfl h, fun _ => ?_⟩) | (refine ⟨fun _ => ?_, fun h => absurd rfl h⟩)))
end WAD
/-- one follows another -/
def nbr (fl : Nat → Option Nat) (a b : Nat) : Prop := ∃ k, k < 3 ∧ fl (a * 3 + k) = some b
def wI (c : Nat) (dp fo : Nat → Nat) (fl : Nat → Option Nat) (le ow : Nat → Bool) (ps : Nat → Nat) (dl : Nat) : Prop := (∀ b, b < c → dl < dp b → ow b = false) ∧ (∀ b, b < c → dp b = 0 → (ow b = true ↔ b = 0)) ∧ (∀ d, d < dl → ∀ b, b < c → dp b = d + 1 → (ow b = true ↔ (le b = true ∧ sPl (fo b) = ps (d + 1) ∧ ∃ a, a < c ∧ dp a = d ∧ ow a = true ∧ nbr fl a b))) ∧ (∀ d, d < dl → (∀ b, b < c → dp b = d + 1 → le b = true → (∃ a, a < c ∧ dp a = d ∧ ow a = true ∧ nbr fl a b) → ps (d + 1) ≤ sPl (fo b)) ∧ (ps (d + 1) = 32 ∨ ∃ b, b < c ∧ dp b = d + 1 ∧ le b = true ∧ (∃ a, a < c ∧ dp a = d ∧ ow a = true ∧ nbr fl a b) ∧ ps (d + 1) = sPl (fo b))) ∧ ps 0 = 0
section WIV
variable {c a e ls dl N : Nat} {fo dp ps : Nat → Nat} {fl : Nat → Option Nat} {le ow ow' B : Nat → Bool}
theorem wI_step (hb : sB c fo dp fl) (h : wI c dp fo fl le ow ps dl) (hlv : ∀ j, j < c → (dp j = dl ↔ a ≤ j ∧ j < e)) (he : e ≤ c) (hL : lPB dp fo fl le ow a e 0 ls) (hM : MW dp fo fl le ow c a ls e 0 ow') : wI c dp fo fl le ow' (va_up ps (dl + 1) ls) (dl + 1) := by
  obtain ⟨h1, h2, h3, h4, h5⟩ := h
  have hbf : ∀ i' k', bfP a e 0 i' k' ↔ (a ≤ i' ∧ i' < e) ∧ k' < 3 := fun i' k' => by
    unfold bfP
    omega
  have same : ∀ b, b < c → dp b ≤ dl → (ow' b = true ↔ ow b = true) := fun b hbc hd => by
    rw [hM b hbc]
    constructor
    · rintro (q | ⟨i', k', q1, q2, -⟩)
      · exact q
      · have r := ((hbf i' k').mp q1).1
        have r1 := (hlv i' (by omega)).mpr r
        have := q2.2.2.1
        omega
    · exact Or.inl
  have par : ∀ b, (∃ a', a' < c ∧ dp a' = dl ∧ ow a' = true ∧ nbr fl a' b) → dp b = dl + 1 → le b = true → ∃ i' k', bfP a e 0 i' k' ∧ cD0 dp fl le ow i' k' b := fun b ⟨a', q1, q2, q3, k, q4, q5⟩ hd hle => ⟨a', k, (hbf a' k).mpr ⟨(hlv a' q1).mp q2, q4⟩, q3, q5, by omega, hle⟩
  have rap : ∀ b i' k', bfP a e 0 i' k' → cD0 dp fl le ow i' k' b → (∃ a', a' < c ∧ dp a' = dl ∧ ow a' = true ∧ nbr fl a' b) ∧ dp b = dl + 1 ∧ le b = true := fun b i' k' q1 q2 => by
    have r := (hbf i' k').mp q1
    have r1 := (hlv i' (by omega)).mpr r.1
    exact ⟨⟨i', by omega, r1, q2.1, k', r.2, q2.2.1⟩, by have := q2.2.2.1; omega, q2.2.2.2⟩
  have ex : ∀ d b, d ≤ dl → ((∃ a', a' < c ∧ dp a' = d ∧ ow' a' = true ∧ nbr fl a' b) ↔ ∃ a', a' < c ∧ dp a' = d ∧ ow a' = true ∧ nbr fl a' b) := fun d b hd => ⟨fun ⟨a', q1, q2, q3, q4⟩ => ⟨a', q1, q2, (same a' q1 (by omega)).mp q3, q4⟩, fun ⟨a', q1, q2, q3, q4⟩ => ⟨a', q1, q2, (same a' q1 (by omega)).mpr q3, q4⟩⟩
  refine ⟨fun b hbc hd => ?_, fun b hbc hd => ?_, fun d hd b hbc hdb => ?_, fun d hd => ?_, by rw [va_up_n (by omega)]; exact h5⟩
  · cases hq : ow' b with
    | false => rfl
    | true =>
      rcases (hM b hbc).mp hq with z | ⟨i', k', q1, q2, -⟩
      · rw [h1 b hbc (by omega)] at z; cases z
      · have := (rap b i' k' q1 q2).2.1
        omega
  · rw [same b hbc (by omega)]
    exact h2 b hbc hd
  · rw [ex d b (by omega)]
    by_cases hdl : d = dl
    · subst hdl
      rw [va_up_s, hM b hbc]
      constructor
      · rintro (z | ⟨i', k', q1, q2, q3⟩)
        · rw [h1 b hbc (by omega)] at z; cases z
        · obtain ⟨r1, r2, r3⟩ := rap b i' k' q1 q2
          exact ⟨r3, q3, r1⟩
      · rintro ⟨z1, z2, z3⟩
        obtain ⟨i', k', q1, q2⟩ := par b z3 hdb z1
        exact Or.inr ⟨i', k', q1, q2, z2⟩
    · rw [va_up_n (by omega), same b hbc (by omega)]
      exact h3 d (by omega) b hbc hdb
  · by_cases hdl : d = dl
    · subst hdl
      rw [va_up_s]
      refine ⟨fun b hbc hdb hle hp => ?_, ?_⟩
      · obtain ⟨i', k', q1, q2⟩ := par b ((ex d b (by omega)).mp hp) hdb hle
        exact hL.1 i' k' b q1 q2
      · rcases hL.2 with z | ⟨i', k', b, q1, q2, q3⟩
        · exact Or.inl z
        · obtain ⟨r1, r2, r3⟩ := rap b i' k' q1 q2
          have r := (hbf i' k').mp q1
          have htc := (hb.2 i' (by omega)).2.2 k' r.2 b q2.2.1
          exact Or.inr ⟨b, htc, r2, r3, (ex d b (by omega)).mpr r1, q3⟩
    · rw [va_up_n (by omega)]
      obtain ⟨g1, g2⟩ := h4 d (by omega)
      refine ⟨fun b hbc hdb hle hp => g1 b hbc hdb hle ((ex d b (by omega)).mp hp), ?_⟩
      rcases g2 with z | ⟨b, q1, q2, q3, q4, q5⟩
      · exact Or.inl z
      · exact Or.inr ⟨b, q1, q2, q3, (ex d b (by omega)).mpr q4, q5⟩
/-- followers are what follows -/
theorem nbr_S {S : Nat → List Nat} {bk : Nat → Bool} {mk : Nat → Nat} (hS : ∀ n, (S n).length ≤ 3) (h : eI S bk c c fo dp mk fl) {x y : Nat} (hx : x < c) (hy : y < c) : nbr fl x y ↔ fo y ∈ S (fo x) := by
  obtain ⟨⟨q1, q2⟩, -⟩ := (h.2 x hx).1 hx
  constructor
  · rintro ⟨k, hk, e⟩
    rcases Nat.lt_or_ge k (S (fo x)).length with hl | hl
    · obtain ⟨j, r1, r2, r3⟩ := q1 k _ hk (List.getElem?_eq_getElem hl)
      rw [e] at r2
      cases r2
      rw [r3]
      exact List.getElem_mem hl
    · rw [q2 k hk (Or.inr hl)] at e
      cases e
  · intro hm
    obtain ⟨k, hk⟩ := List.mem_iff_getElem?.mp hm
    have hl := (List.getElem?_eq_some_iff.mp hk).1
    have h3 := hS (fo x)
    obtain ⟨j, r1, r2, r3⟩ := q1 k _ (by omega) hk
    have e := h.1.2.1 j r1 y hy r3
    subst e
    exact ⟨k, by omega, r2⟩
theorem eI_t {S : Nat → List Nat} {bk : Nat → Bool} {mk : Nat → Nat} (h : eI S bk c c fo dp mk fl) {x k t : Nat} (hx : x < c) (hk : k < 3) (e : fl (x * 3 + k) = some t) : t < c := by
  obtain ⟨⟨q1, q2⟩, -⟩ := (h.2 x hx).1 hx
  rcases Nat.lt_or_ge k (S (fo x)).length with hl | hl
  · obtain ⟨j, r1, r2, r3⟩ := q1 k _ hk (List.getElem?_eq_getElem hl)
    rw [e] at r2
    cases r2
    exact r1
  · rw [q2 k hk (Or.inr hl)] at e
    cases e
theorem gC_of {S : Nat → List Nat} {bk : Nat → Bool} {mk : Nat → Nat} (hS : ∀ n, (S n).length ≤ 3) (h : eI S bk c c fo dp mk fl) (hN : (∃ a, a < c ∧ bk (fo a) = true ∧ dp a = N) ∧ ∀ a, a < c → bk (fo a) = true → N ≤ dp a) (hl : lM c N dp fl (fun a => bk (fo a)) le 0) (hw : wI c dp fo fl le ow ps N) : gC S bk sPl c N fo dp ps (fun a => le a = true) (fun d a => dp a = d ∧ ow a = true) := by
  obtain ⟨h1, h2, h3, h4, h5⟩ := hw
  have ex : ∀ d b, b < c → ((∃ a, a < c ∧ (dp a = d ∧ ow a = true) ∧ fo b ∈ S (fo a)) ↔ ∃ a, a < c ∧ dp a = d ∧ ow a = true ∧ nbr fl a b) := fun d b hb => ⟨fun ⟨a, q1, q2, q3⟩ => ⟨a, q1, q2.1, q2.2, (nbr_S hS h q1 hb).mpr q3⟩, fun ⟨a, q1, q2, q3, q4⟩ => ⟨a, q1, ⟨q2, q3⟩, (nbr_S hS h q1 hb).mp q4⟩⟩
  refine ⟨h.1, hN, fun a ha => ?_, fun a ha => ?_, fun d hd b hb => ?_, by rw [h5]; exact (dg_0 22 9).symm, fun d hd => ?_⟩
  · refine Iff.trans (hl.2 a (by omega) ha) ?_
    have e : (∃ k, k < 3 ∧ lO dp fl le a k = true) ↔ ∃ b, b < c ∧ fo b ∈ S (fo a) ∧ dp b = dp a + 1 ∧ le b = true := by
      constructor
      · rintro ⟨k, hk, q⟩
        obtain ⟨t, t1, t2, t3⟩ := lO_t q
        have htc := eI_t h ha hk t1
        exact ⟨t, htc, (nbr_S hS h ha htc).mp ⟨k, hk, t1⟩, t2, t3⟩
      · rintro ⟨b, q1, q2, q3, q4⟩
        obtain ⟨k, hk, e⟩ := (nbr_S hS h ha q1).mpr q2
        refine ⟨k, hk, ?_⟩
        unfold lO
        rw [e]
        simp only
        rw [decide_eq_true q3, q4]; rfl
    show ((dp a = N ∧ bk (fo a) = true) ∨ (dp a < N ∧ ∃ k, k < 3 ∧ lO dp fl le a k = true)) ↔ ((dp a = N ∧ bk (fo a) = true) ∨ (dp a < N ∧ ∃ b, b < c ∧ fo b ∈ S (fo a) ∧ dp b = dp a + 1 ∧ le b = true))
    rw [e]
  · constructor
    · intro q
      exact (h2 a ha q.1).mp q.2
    · intro q
      subst q
      have := h.1.1.2.2.1
      exact ⟨this, (h2 0 ha this).mpr rfl⟩
  · rw [ex d b hb]
    constructor
    · rintro ⟨q1, q2⟩
      exact ⟨q1, (h3 d hd b hb q1).mp q2⟩
    · rintro ⟨q1, q2⟩
      exact ⟨q1, (h3 d hd b hb q1).mpr q2⟩
  · obtain ⟨g1, g2⟩ := h4 d hd
    refine ⟨fun b hb q1 q2 q3 => g1 b hb q1 q2 ((ex d b hb).mp q3), ?_⟩
    rcases g2 with z | ⟨b, q1, q2, q3, q4, q5⟩
    · exact Or.inl z
    · exact Or.inr ⟨b, q1, q2, q3, (ex d b q1).mpr q4, q5⟩
end WIV
section WAE
variable {G : px_G} {ph : List px_E} {d : Nat} {Q : Option Value → List px_E → Prop} {os c D N : Nat} {fo dp ps sl mk : Nat → Nat} {fl : Nat → Option Nat} {B le ow : Nat → Bool} {a e : Nat} {S : Nat → List Nat} {bk : Nat → Bool}
theorem sW.Y (h : sW ph os c fo dp fl B le ow D ps) : sY ph os := by
  obtain ⟨k0, k1, f, dd, m, fw, pa, k2, k3, k4, k5, k6, -⟩ := h
  exact ⟨⟨c, k0⟩, k1, ⟨_, k2⟩, ⟨_, k3⟩, ⟨_, k4⟩, ⟨_, k5⟩, ⟨_, k6⟩⟩
theorem sW_pl {pa : Nat → Int32} {v : Nat} (h : sW ph os c fo dp fl B le ow D ps) (h6 : ph[os + 6]? = some (IA 3000 pa)) : sW (ph.set (os + 6) (IA 3000 (upd pa D (nI v)))) os c fo dp fl B le ow (D + 1) (va_up ps D v) := by
  obtain ⟨k0, ⟨s, k1⟩, f, dd, m, fw, pa', k2, k3, k4, k5, k6, v1, v2⟩ := h
  rw [h6] at k6
  cases k6
  refine ⟨(px_put_ne (by omega)).trans k0, ⟨s, (px_put_ne (by omega)).trans k1⟩, f, dd, m, fw, _, (px_put_ne (by omega)).trans k2, (px_put_ne (by omega)).trans k3, (px_put_ne (by omega)).trans k4, (px_put_ne (by omega)).trans k5, px_put_self.trans (by rw [h6]; rfl), v1, fun j hj => ?_⟩
  by_cases q : j = D
  · subst q; rw [pk_us, va_up_s]
  · unfold upd; rw [if_neg q, va_up_n q]; exact v2 j (by omega)
set_option maxRecDepth 100000 in
set_option maxHeartbeats 4000000 in
theorem c_S_findWay (hS : ∀ n, (S n).length ≤ 3) (h : sX ph os c fo dp sl mk fl) (hc : c ≤ 3000) (hE : eI S bk c c fo dp mk fl) (hw : ∀ a, a < c → fo a < 2 ^ 28) (hQ1 : (∀ a, a < c → bk (fo a) = false) → ∀ ph', fr (FS os) ph ph' → sY ph' os → Q (some (.int (nI 0))) ph') (hQ2 : ∀ N ps LE OW pa ph', fr (FS os) ph ph' → gC S bk sPl c N fo dp ps LE OW → N < 3000 → ph'[os + 6]? = some (IA 3000 pa) → (∀ j, j ≤ N → pa j = nI (ps j)) → sY ph' os → Q (some (.int (nI (N + 1)))) ph') : px_Met G mX9_findWay (d + 2) 0 0 [.ref os] ph Q := by
  have hY := h.Y
  have hmon := hE.1.2.2.2.1
  have hdp : ∀ a, a < c → dp a < 3000 := fun a ha => by
    have := hE.1.1.2.2.2 a ha
    omega
  have hb : sB c fo dp fl := ⟨hc, fun i hi => ⟨hw i hi, hdp i hi, fun k hk t e => eI_t hE hi hk e⟩⟩
  have h1c := hE.1.1.1
  have hS0 : sW ph os c fo dp fl (fun a => bk (fo a)) (fun _ => false) (fun _ => false) 0 (fun _ => 0) := by
    obtain ⟨k0, s, f, dd, m, fw, k1, k2, k3, k4, k5, ⟨g, k6⟩, v1, v2⟩ := h
    refine ⟨k0, ⟨s, k1⟩, f, dd, m, fw, g, k2, k3, k4, k5, k6, fun i hi => ?_, fun j hj => absurd hj (by omega)⟩
    obtain ⟨w1, w2, w3, w4⟩ := v2 i hi
    refine ⟨w1, w2, ?_, w4⟩
    rw [w3, ((hE.2 i hi).1 hi).2]
    unfold mN
    rfl
  refine px_start kX9_findWay (Nat.le_of_ble_eq_true rfl) ?_
  show px_W G _ _ _ _ _ 0 0 0 [some (.ref os), none, none, none, none, none] [] ph
  (repeat (first | (refine px_st rfl rfl ?_; simp only [px_wp, px_at, px_set, px_set2, px_clr, px_ldi, px_ldl, px_lda, px_i1, px_i2, px_l1, px_l2, px_il, px_a1, px_r1, px_r2, px_ir, px_vir, px_g, px_v1, px_v2, px_gf, px_pf, px_ps, px_ar, px_nth, px_upd, px_zero, px_dfl, px_put_self, px_put_ne, px_sw, nI_add, pk_mul, true_and, and_true, Nat.reduceAdd, Nat.reduceLT, Nat.reduceEqDiff, List.length_cons, List.length_nil, true_or, or_true, List.set_set, ne_eq, not_false_eq_true, Fin.isValue, Fin.val_zero, Fin.val_one, Fin.val_two, reduceCtorEq, Option.map_some, List.length_set, Nat.zero_lt_succ, Option.toList_some, Option.toList_none, List.cons_append, List.nil_append, px_b_2, IA, LA, BA, ZA, QA, PT, DR, TL, MC, CD, CC, false_and, or_false, false_or, nar_b, nar_0, nar_1, nar_y]) | (refine ⟨_, rfl, by omega, ?_⟩) | (refine ⟨fun h => absurd h (nI_nlt (by omega) (by omega)), fun _ => ?_⟩) | (refine ⟨fun _ => ?_, fun h => absurd h (nI_nlt (by omega) (by omega))⟩) | (refine ⟨fun h => absurd (nI_lt (by omega) (by omega)) h, fun _ => ?_⟩) | (refine ⟨fun _ => ?_, fun h => absurd (nI_lt (by omega) (by omega)) h⟩) | (refine ⟨fun h => absurd ((nI_eq (by omega) (by omega)).mp h) (by omega), fun _ => ?_⟩) | (refine ⟨fun _ => ?_, fun h => absurd ((nI_eq (by omega) (by omega)).mp h) (by omega)⟩) | (refine ⟨fun h => absurd h (by decide), fun _ => ?_⟩) | (refine ⟨fun _ => ?_, fun h => absurd h (by decide)⟩) | (refine ⟨fun h => absurd rfl h, fun _ => ?_⟩) | (refine ⟨fun _ => ?_, fun h => absurd rfl h⟩)))
  refine px_cV rfl rfl kX9_nearestBreak rfl (c_S_nearestBreak (d := d + 1) hS0 hb (fun hno => ?_) (fun a0 ha0 hB0 hno => ?_)) (Nat.le_refl _) h.1 rfl rfl rfl (Nat.le_of_ble_eq_true rfl) (Nat.zero_le _) (Nat.zero_le _)
  · have hq := hQ1 hno ph fr_id hY
    (repeat (first | (refine px_st rfl rfl ?_; simp only [px_wp, px_at, px_set, px_set2, px_clr, px_ldi, px_ldl, px_lda, px_i1, px_i2, px_l1, px_l2, px_il, px_a1, px_r1, px_r2, px_ir, px_vir, px_g, px_v1, px_v2, px_gf, px_pf, px_ps, px_ar, px_nth, px_upd, px_zero, px_dfl, px_put_self, px_put_ne, px_sw, nI_add, pk_mul, true_and, and_true, Nat.reduceAdd, Nat.reduceLT, Nat.reduceEqDiff, List.length_cons, List.length_nil, true_or, or_true, List.set_set, ne_eq, not_false_eq_true, Fin.isValue, Fin.val_zero, Fin.val_one, Fin.val_two, reduceCtorEq, Option.map_some, List.length_set, Nat.zero_lt_succ, Option.toList_some, Option.toList_none, List.cons_append, List.nil_append, px_b_2, IA, LA, BA, ZA, QA, PT, DR, TL, MC, CD, CC, false_and, or_false, false_or, nar_b, nar_0, nar_1, nar_y]) | (refine ⟨_, rfl, by omega, ?_⟩) | (refine ⟨fun h => absurd h (nI_nlt (by omega) (by omega)), fun _ => ?_⟩) | (refine ⟨fun _ => ?_, fun h => absurd h (nI_nlt (by omega) (by omega))⟩) | (refine ⟨fun h => absurd (nI_lt (by omega) (by omega)) h, fun _ => ?_⟩) | (refine ⟨fun _ => ?_, fun h => absurd (nI_lt (by omega) (by omega)) h⟩) | (refine ⟨fun h => absurd ((nI_eq (by omega) (by omega)).mp h) (by omega), fun _ => ?_⟩) | (refine ⟨fun _ => ?_, fun h => absurd ((nI_eq (by omega) (by omega)).mp h) (by omega)⟩) | (refine ⟨fun h => absurd h (by decide), fun _ => ?_⟩) | (refine ⟨fun _ => ?_, fun h => absurd h (by decide)⟩) | (refine ⟨fun h => absurd rfl h, fun _ => ?_⟩) | (refine ⟨fun _ => ?_, fun h => absurd rfl h⟩)))
    exact px_ireturn rfl (Or.inl rfl) (Nat.le_refl _) (Nat.le_refl _) hq
  have hdN := hdp a0 ha0
  obtain ⟨N, hN⟩ : ∃ N, dp a0 = N := ⟨_, rfl⟩
  rw [hN] at hdN ⊢
  have hne : ¬ nI N = -2 := nI_m2 (by omega)
  (repeat (first | (refine ⟨fun _ => ?_, fun q => absurd q hne⟩) | (refine px_st rfl rfl ?_; simp only [px_wp, px_at, px_set, px_set2, px_clr, px_ldi, px_ldl, px_lda, px_i1, px_i2, px_l1, px_l2, px_il, px_a1, px_r1, px_r2, px_ir, px_vir, px_g, px_v1, px_v2, px_gf, px_pf, px_ps, px_ar, px_nth, px_upd, px_zero, px_dfl, px_put_self, px_put_ne, px_sw, nI_add, pk_mul, true_and, and_true, Nat.reduceAdd, Nat.reduceLT, Nat.reduceEqDiff, List.length_cons, List.length_nil, true_or, or_true, List.set_set, ne_eq, not_false_eq_true, Fin.isValue, Fin.val_zero, Fin.val_one, Fin.val_two, reduceCtorEq, Option.map_some, List.length_set, Nat.zero_lt_succ, Option.toList_some, Option.toList_none, List.cons_append, List.nil_append, px_b_2, IA, LA, BA, ZA, QA, PT, DR, TL, MC, CD, CC, false_and, or_false, false_or, nar_b, nar_0, nar_1, nar_y]) | (refine ⟨_, rfl, by omega, ?_⟩) | (refine ⟨fun h => absurd h (nI_nlt (by omega) (by omega)), fun _ => ?_⟩) | (refine ⟨fun _ => ?_, fun h => absurd h (nI_nlt (by omega) (by omega))⟩) | (refine ⟨fun h => absurd (nI_lt (by omega) (by omega)) h, fun _ => ?_⟩) | (refine ⟨fun _ => ?_, fun h => absurd (nI_lt (by omega) (by omega)) h⟩) | (refine ⟨fun h => absurd ((nI_eq (by omega) (by omega)).mp h) (by omega), fun _ => ?_⟩) | (refine ⟨fun _ => ?_, fun h => absurd ((nI_eq (by omega) (by omega)).mp h) (by omega)⟩) | (refine ⟨fun h => absurd h (by decide), fun _ => ?_⟩) | (refine ⟨fun _ => ?_, fun h => absurd h (by decide)⟩) | (refine ⟨fun h => absurd rfl h, fun _ => ?_⟩) | (refine ⟨fun _ => ?_, fun h => absurd rfl h⟩)))
  refine px_cV rfl rfl kX9_markLeading rfl (c_S_markLeading (d := d) hS0 hb hmon hdN (fun le ph1 hf1 hL hS1 => ?_)) (Nat.le_refl _) h.1 rfl rfl rfl (Nat.le_of_ble_eq_true rfl) (Nat.zero_le _) (Nat.zero_le _)
  have hS10 := hS1
  obtain ⟨k0, k1, f, dd, m, fw, pa, k2, k3, k4, k5, k6, v1, v2⟩ := hS1
  obtain ⟨w1, w2, w3, w4⟩ := v1 0 (by omega)
  have hfo0 := hE.1.1.2.1
  rw [hfo0] at w1
  have hdp0 := hE.1.1.2.2.1
  have eo := mN_o4 ((fun a => bk (fo a)) 0) (le 0) false
  (repeat (first | (refine px_st rfl rfl ?_; simp only [px_wp, px_at, px_set, px_set2, px_clr, px_ldi, px_ldl, px_lda, px_i1, px_i2, px_l1, px_l2, px_il, px_a1, px_r1, px_r2, px_ir, px_vir, px_g, px_v1, px_v2, px_gf, px_pf, px_ps, px_ar, px_nth, px_upd, px_zero, px_dfl, px_put_self, px_put_ne, px_sw, nI_add, pk_mul, true_and, and_true, Nat.reduceAdd, Nat.reduceLT, Nat.reduceEqDiff, List.length_cons, List.length_nil, true_or, or_true, List.set_set, ne_eq, not_false_eq_true, Fin.isValue, Fin.val_zero, Fin.val_one, Fin.val_two, reduceCtorEq, Option.map_some, List.length_set, Nat.zero_lt_succ, Option.toList_some, Option.toList_none, List.cons_append, List.nil_append, px_b_2, IA, LA, BA, ZA, QA, PT, DR, TL, MC, CD, CC, false_and, or_false, false_or, nar_b, nar_0, nar_1, nar_y, k0, SP, k4, w3, eo, k2, w1, show ¬ os + 4 = os by omega, show ¬ os + 4 = os + 2 by omega]) | (refine ⟨_, rfl, by omega, ?_⟩) | (refine ⟨fun h => absurd h (nI_nlt (by omega) (by omega)), fun _ => ?_⟩) | (refine ⟨fun _ => ?_, fun h => absurd h (nI_nlt (by omega) (by omega))⟩) | (refine ⟨fun h => absurd (nI_lt (by omega) (by omega)) h, fun _ => ?_⟩) | (refine ⟨fun _ => ?_, fun h => absurd (nI_lt (by omega) (by omega)) h⟩) | (refine ⟨fun h => absurd ((nI_eq (by omega) (by omega)).mp h) (by omega), fun _ => ?_⟩) | (refine ⟨fun _ => ?_, fun h => absurd ((nI_eq (by omega) (by omega)).mp h) (by omega)⟩) | (refine ⟨fun h => absurd h (by decide), fun _ => ?_⟩) | (refine ⟨fun _ => ?_, fun h => absurd h (by decide)⟩) | (refine ⟨fun h => absurd rfl h, fun _ => ?_⟩) | (refine ⟨fun _ => ?_, fun h => absurd rfl h⟩)))
  rw [w1]
  refine px_cS rfl rfl kX9_placeOf rfl (c_H_placeOf (n := 0) (by omega) ?_) (Nat.le_refl _) rfl rfl (Nat.le_of_ble_eq_true rfl) (Nat.zero_le _) (Nat.zero_le _)
  rw [show sPl 0 = 0 from dg_0 22 9]
  have hS2 := sW_mark (le' := le) (ow' := va_up (fun _ => false) 0 true) hS10 k4 (show 0 < c by omega) (fun b _ z => ⟨rfl, va_up_n z⟩)
  rw [va_up_s] at hS2
  have k6' : (ph1.set (os + 4) (IA 3000 (upd m 0 (nI (mN ((fun a => bk (fo a)) 0) (le 0) true)))))[os + 6]? = some (IA 3000 pa) := (px_put_ne (by omega)).trans k6
  have hS3 := sW_pl (v := 0) hS2 k6'
  have hwI : wI c dp fo fl le (va_up (fun _ => false) 0 true) (va_up (fun _ => 0) 0 0) 0 := by
    refine ⟨fun b hb hd => ?_, fun b hb hd => ?_, fun d hd => absurd hd (by omega), fun d hd => absurd hd (by omega), va_up_s⟩
    · rw [va_up_n (fun q => by subst q; omega)]
    · by_cases q : b = 0
      · subst q; rw [va_up_s]; exact ⟨fun _ => rfl, fun _ => rfl⟩
      · rw [va_up_n q]
        exact ⟨fun z => (by cases z), fun z => absurd z q⟩
  have loop : ∀ (r dl a : Nat) (ow : Nat → Bool) (ps : Nat → Nat) (l4 l5 : Option Value) (ph' : List px_E), dl + r = N → a ≤ c → (∀ j, j < a → dp j < dl) → (∀ j, a ≤ j → j < c → dl ≤ dp j) → (l4 = none ∨ ∃ x, l4 = some (.int x)) → fr (FS os) ph ph' → wI c dp fo fl le ow ps dl → sW ph' os c fo dp fl (fun a => bk (fo a)) le ow (dl + 1) ps → px_W G mX9_findWay (d + 2) 0 0 Q 0 0 47 [some (.ref os), some (.int (nI N)), some (.int (nI a)), some (.int (nI dl)), l4, l5] [] ph' := by
    intro r
    induction r with
    | zero =>
      intro dl a ow ps l4 l5 ph' hr hac ha1 ha2 h4 hf hW hS'
      have e1 : dl = N := by omega
      subst e1
      have hY' := hS'.Y
      obtain ⟨j0, j1, f', dd', m', fw', pa', j2, j3, j4, j5, j6, u1, u2⟩ := hS'
      have hq := hQ2 dl ps _ _ pa' ph' hf (gC_of hS hE ⟨⟨a0, ha0, hB0, hN⟩, fun b hb' hB' => by
        rcases Nat.lt_or_ge b a0 with z | z
        · rw [show bk (fo b) = false from hno b z] at hB'
          cases hB'
        · have := hmon a0 b z hb'
          omega⟩ hL hW) hdN j6 (fun j hj => u2 j (by omega)) hY'
      (repeat (first | (refine px_st rfl rfl ?_; simp only [px_wp, px_at, px_set, px_set2, px_clr, px_ldi, px_ldl, px_lda, px_i1, px_i2, px_l1, px_l2, px_il, px_a1, px_r1, px_r2, px_ir, px_vir, px_g, px_v1, px_v2, px_gf, px_pf, px_ps, px_ar, px_nth, px_upd, px_zero, px_dfl, px_put_self, px_put_ne, px_sw, nI_add, pk_mul, true_and, and_true, Nat.reduceAdd, Nat.reduceLT, Nat.reduceEqDiff, List.length_cons, List.length_nil, true_or, or_true, List.set_set, ne_eq, not_false_eq_true, Fin.isValue, Fin.val_zero, Fin.val_one, Fin.val_two, reduceCtorEq, Option.map_some, List.length_set, Nat.zero_lt_succ, Option.toList_some, Option.toList_none, List.cons_append, List.nil_append, px_b_2, IA, LA, BA, ZA, QA, PT, DR, TL, MC, CD, CC, false_and, or_false, false_or, nar_b, nar_0, nar_1, nar_y]) | (refine ⟨_, rfl, by omega, ?_⟩) | (refine ⟨fun h => absurd h (nI_nlt (by omega) (by omega)), fun _ => ?_⟩) | (refine ⟨fun _ => ?_, fun h => absurd h (nI_nlt (by omega) (by omega))⟩) | (refine ⟨fun h => absurd (nI_lt (by omega) (by omega)) h, fun _ => ?_⟩) | (refine ⟨fun _ => ?_, fun h => absurd (nI_lt (by omega) (by omega)) h⟩) | (refine ⟨fun h => absurd ((nI_eq (by omega) (by omega)).mp h) (by omega), fun _ => ?_⟩) | (refine ⟨fun _ => ?_, fun h => absurd ((nI_eq (by omega) (by omega)).mp h) (by omega)⟩) | (refine ⟨fun h => absurd h (by decide), fun _ => ?_⟩) | (refine ⟨fun _ => ?_, fun h => absurd h (by decide)⟩) | (refine ⟨fun h => absurd rfl h, fun _ => ?_⟩) | (refine ⟨fun _ => ?_, fun h => absurd rfl h⟩)))
      exact px_ireturn rfl (Or.inl rfl) (Nat.le_refl _) (Nat.le_refl _) hq
    | succ r ih =>
      intro dl a ow ps l4 l5 ph' hr hac ha1 ha2 h4 hf hW hS'
      have step : px_W G mX9_findWay (d + 2) 0 0 Q 0 0 52 [some (.ref os), some (.int (nI N)), some (.int (nI a)), some (.int (nI dl)), l4, l5] [] ph' := by
        (repeat (first | (refine ⟨_, rfl, by omega, ?_⟩) | (refine px_st rfl rfl ?_; simp only [px_wp, px_at, px_set, px_set2, px_clr, px_ldi, px_ldl, px_lda, px_i1, px_i2, px_l1, px_l2, px_il, px_a1, px_r1, px_r2, px_ir, px_vir, px_g, px_v1, px_v2, px_gf, px_pf, px_ps, px_ar, px_nth, px_upd, px_zero, px_dfl, px_put_self, px_put_ne, px_sw, nI_add, pk_mul, true_and, and_true, Nat.reduceAdd, Nat.reduceLT, Nat.reduceEqDiff, List.length_cons, List.length_nil, true_or, or_true, List.set_set, ne_eq, not_false_eq_true, Fin.isValue, Fin.val_zero, Fin.val_one, Fin.val_two, reduceCtorEq, Option.map_some, List.length_set, Nat.zero_lt_succ, Option.toList_some, Option.toList_none, List.cons_append, List.nil_append, px_b_2, IA, LA, BA, ZA, QA, PT, DR, TL, MC, CD, CC, false_and, or_false, false_or, nar_b, nar_0, nar_1, nar_y])))
        refine px_cV rfl rfl kX9_levelEnd rfl (c_S_levelEnd (d := d + 1) hS' hb hac (by omega) (fun t t1 t2 t3 t4 => ?_)) (Nat.le_refl _) hS'.1 rfl rfl rfl (Nat.le_of_ble_eq_true rfl) (Nat.zero_le _) (Nat.zero_le _)
        have hlv : ∀ j, j < c → (dp j = dl ↔ a ≤ j ∧ j < t) := fun j hj => by
          constructor
          · intro q
            have q1 : a ≤ j := by
              rcases Nat.lt_or_ge j a with z | z
              · have := ha1 j z
                omega
              · exact z
            refine ⟨q1, ?_⟩
            rcases Nat.lt_or_ge j t with z | z
            · exact z
            · have z1 := t4 (by omega)
              have z2 := ha2 t t1 (by omega)
              have z3 := hmon t j z hj
              omega
          · intro q
            exact t3 j q.1 q.2
        (repeat (first | (refine ⟨_, rfl, by omega, ?_⟩) | (refine px_st rfl rfl ?_; simp only [px_wp, px_at, px_set, px_set2, px_clr, px_ldi, px_ldl, px_lda, px_i1, px_i2, px_l1, px_l2, px_il, px_a1, px_r1, px_r2, px_ir, px_vir, px_g, px_v1, px_v2, px_gf, px_pf, px_ps, px_ar, px_nth, px_upd, px_zero, px_dfl, px_put_self, px_put_ne, px_sw, nI_add, pk_mul, true_and, and_true, Nat.reduceAdd, Nat.reduceLT, Nat.reduceEqDiff, List.length_cons, List.length_nil, true_or, or_true, List.set_set, ne_eq, not_false_eq_true, Fin.isValue, Fin.val_zero, Fin.val_one, Fin.val_two, reduceCtorEq, Option.map_some, List.length_set, Nat.zero_lt_succ, Option.toList_some, Option.toList_none, List.cons_append, List.nil_append, px_b_2, IA, LA, BA, ZA, QA, PT, DR, TL, MC, CD, CC, false_and, or_false, false_or, nar_b, nar_0, nar_1, nar_y])))
        refine px_cV rfl rfl kX9_leastPlaceBehind rfl (c_S_leastPlaceBehind (d := d) hS' hb t1 t2 (fun ls hls hLP => ?_)) (Nat.le_refl _) hS'.1 rfl rfl rfl (Nat.le_of_ble_eq_true rfl) (Nat.zero_le _) (Nat.zero_le _)
        (repeat (first | (refine ⟨_, rfl, by omega, ?_⟩) | (refine px_st rfl rfl ?_; simp only [px_wp, px_at, px_set, px_set2, px_clr, px_ldi, px_ldl, px_lda, px_i1, px_i2, px_l1, px_l2, px_il, px_a1, px_r1, px_r2, px_ir, px_vir, px_g, px_v1, px_v2, px_gf, px_pf, px_ps, px_ar, px_nth, px_upd, px_zero, px_dfl, px_put_self, px_put_ne, px_sw, nI_add, pk_mul, true_and, and_true, Nat.reduceAdd, Nat.reduceLT, Nat.reduceEqDiff, List.length_cons, List.length_nil, true_or, or_true, List.set_set, ne_eq, not_false_eq_true, Fin.isValue, Fin.val_zero, Fin.val_one, Fin.val_two, reduceCtorEq, Option.map_some, List.length_set, Nat.zero_lt_succ, Option.toList_some, Option.toList_none, List.cons_append, List.nil_append, px_b_2, IA, LA, BA, ZA, QA, PT, DR, TL, MC, CD, CC, false_and, or_false, false_or, nar_b, nar_0, nar_1, nar_y])))
        refine px_cV rfl rfl kX9_markOnWay rfl (c_S_markOnWay (d := d) (dl := dl) hS' hb t1 t2 hls (fun i q1 q2 => t3 i q1 q2) (fun ow' ph2 hf2 hMW hS2 => ?_)) (Nat.le_refl _) hS'.1 rfl rfl rfl (Nat.le_of_ble_eq_true rfl) (Nat.zero_le _) (Nat.zero_le _)
        have hS20 := hS2
        obtain ⟨j0, j1, f', dd', m', fw', pa', j2, j3, j4, j5, j6, u1, u2⟩ := hS2
        have hS3 := sW_pl (v := ls) hS20 j6
        have hih := ih (dl + 1) t ow' (va_up ps (dl + 1) ls) (some (.int (nI t))) (some (.int (nI ls))) _ (by omega) t2 (fun j hj => ?_) (fun j q1 q2 => ?_) (Or.inr ⟨_, rfl⟩) (fr_tr (fr_tr hf hf2) (fs_set fr_id (show os ≤ os + 6 ∧ os + 6 ≤ os + 6 by omega))) (wI_step hb hW hlv t2 hLP hMW) hS3
        · (repeat (first | (exact hih) | (refine px_st rfl rfl ?_; simp only [px_wp, px_at, px_set, px_set2, px_clr, px_ldi, px_ldl, px_lda, px_i1, px_i2, px_l1, px_l2, px_il, px_a1, px_r1, px_r2, px_ir, px_vir, px_g, px_v1, px_v2, px_gf, px_pf, px_ps, px_ar, px_nth, px_upd, px_zero, px_dfl, px_put_self, px_put_ne, px_sw, nI_add, pk_mul, true_and, and_true, Nat.reduceAdd, Nat.reduceLT, Nat.reduceEqDiff, List.length_cons, List.length_nil, true_or, or_true, List.set_set, ne_eq, not_false_eq_true, Fin.isValue, Fin.val_zero, Fin.val_one, Fin.val_two, reduceCtorEq, Option.map_some, List.length_set, Nat.zero_lt_succ, Option.toList_some, Option.toList_none, List.cons_append, List.nil_append, px_b_2, IA, LA, BA, ZA, QA, PT, DR, TL, MC, CD, CC, false_and, or_false, false_or, nar_b, nar_0, nar_1, nar_y, j0, SP, j6]) | (refine ⟨_, rfl, by omega, ?_⟩) | (refine ⟨fun h => absurd h (nI_nlt (by omega) (by omega)), fun _ => ?_⟩) | (refine ⟨fun _ => ?_, fun h => absurd h (nI_nlt (by omega) (by omega))⟩) | (refine ⟨fun h => absurd (nI_lt (by omega) (by omega)) h, fun _ => ?_⟩) | (refine ⟨fun _ => ?_, fun h => absurd (nI_lt (by omega) (by omega)) h⟩) | (refine ⟨fun h => absurd ((nI_eq (by omega) (by omega)).mp h) (by omega), fun _ => ?_⟩) | (refine ⟨fun _ => ?_, fun h => absurd ((nI_eq (by omega) (by omega)).mp h) (by omega)⟩) | (refine ⟨fun h => absurd h (by decide), fun _ => ?_⟩) | (refine ⟨fun _ => ?_, fun h => absurd h (by decide)⟩) | (refine ⟨fun h => absurd rfl h, fun _ => ?_⟩) | (refine ⟨fun _ => ?_, fun h => absurd rfl h⟩)))
        · rcases Nat.lt_or_ge j a with z | z
          · have := ha1 j z
            omega
          · have := t3 j z hj
            omega
        · have z1 := ha2 j (by omega) q2
          have z2 := hlv j q2
          rcases Nat.lt_or_ge dl (dp j) with z | z
          · exact z
          · have := z2.mp (by omega)
            omega
      rcases h4 with rfl | ⟨x, rfl⟩
      · (repeat (first | (refine ⟨_, rfl, by omega, ?_⟩) | (refine px_st rfl rfl ?_; simp only [px_wp, px_at, px_set, px_set2, px_clr, px_ldi, px_ldl, px_lda, px_i1, px_i2, px_l1, px_l2, px_il, px_a1, px_r1, px_r2, px_ir, px_vir, px_g, px_v1, px_v2, px_gf, px_pf, px_ps, px_ar, px_nth, px_upd, px_zero, px_dfl, px_put_self, px_put_ne, px_sw, nI_add, pk_mul, true_and, and_true, Nat.reduceAdd, Nat.reduceLT, Nat.reduceEqDiff, List.length_cons, List.length_nil, true_or, or_true, List.set_set, ne_eq, not_false_eq_true, Fin.isValue, Fin.val_zero, Fin.val_one, Fin.val_two, reduceCtorEq, Option.map_some, List.length_set, Nat.zero_lt_succ, Option.toList_some, Option.toList_none, List.cons_append, List.nil_append, px_b_2, IA, LA, BA, ZA, QA, PT, DR, TL, MC, CD, CC, false_and, or_false, false_or, nar_b, nar_0, nar_1, nar_y])))
        refine ⟨fun q => absurd (nI_lt (by omega) (by omega)) q, fun _ => step⟩
      · (repeat (first | (refine ⟨_, rfl, by omega, ?_⟩) | (refine px_st rfl rfl ?_; simp only [px_wp, px_at, px_set, px_set2, px_clr, px_ldi, px_ldl, px_lda, px_i1, px_i2, px_l1, px_l2, px_il, px_a1, px_r1, px_r2, px_ir, px_vir, px_g, px_v1, px_v2, px_gf, px_pf, px_ps, px_ar, px_nth, px_upd, px_zero, px_dfl, px_put_self, px_put_ne, px_sw, nI_add, pk_mul, true_and, and_true, Nat.reduceAdd, Nat.reduceLT, Nat.reduceEqDiff, List.length_cons, List.length_nil, true_or, or_true, List.set_set, ne_eq, not_false_eq_true, Fin.isValue, Fin.val_zero, Fin.val_one, Fin.val_two, reduceCtorEq, Option.map_some, List.length_set, Nat.zero_lt_succ, Option.toList_some, Option.toList_none, List.cons_append, List.nil_append, px_b_2, IA, LA, BA, ZA, QA, PT, DR, TL, MC, CD, CC, false_and, or_false, false_or, nar_b, nar_0, nar_1, nar_y])))
        refine ⟨fun q => absurd (nI_lt (by omega) (by omega)) q, fun _ => step⟩
  have hl := loop N 0 0 _ _ none none _ (by omega) (by omega) (fun j hj => absurd hj (by omega)) (fun j _ _ => by omega) (Or.inl rfl) (fr_tr hf1 (fs_set (fs_set fr_id (show os ≤ os + 4 ∧ os + 4 ≤ os + 6 by omega)) (show os ≤ os + 6 ∧ os + 6 ≤ os + 6 by omega))) hwI hS3
  (repeat (first | (exact hl) | (refine px_st rfl rfl ?_; simp only [px_wp, px_at, px_set, px_set2, px_clr, px_ldi, px_ldl, px_lda, px_i1, px_i2, px_l1, px_l2, px_il, px_a1, px_r1, px_r2, px_ir, px_vir, px_g, px_v1, px_v2, px_gf, px_pf, px_ps, px_ar, px_nth, px_upd, px_zero, px_dfl, px_put_self, px_put_ne, px_sw, nI_add, pk_mul, true_and, and_true, Nat.reduceAdd, Nat.reduceLT, Nat.reduceEqDiff, List.length_cons, List.length_nil, true_or, or_true, List.set_set, ne_eq, not_false_eq_true, Fin.isValue, Fin.val_zero, Fin.val_one, Fin.val_two, reduceCtorEq, Option.map_some, List.length_set, Nat.zero_lt_succ, Option.toList_some, Option.toList_none, List.cons_append, List.nil_append, px_b_2, IA, LA, BA, ZA, QA, PT, DR, TL, MC, CD, CC, false_and, or_false, false_or, nar_b, nar_0, nar_1, nar_y, k0, SP, k6, show ¬ os + 4 = os by omega, show ¬ os + 4 = os + 6 by omega]) | (refine ⟨_, rfl, by omega, ?_⟩) | (refine ⟨fun h => absurd h (nI_nlt (by omega) (by omega)), fun _ => ?_⟩) | (refine ⟨fun _ => ?_, fun h => absurd h (nI_nlt (by omega) (by omega))⟩) | (refine ⟨fun h => absurd (nI_lt (by omega) (by omega)) h, fun _ => ?_⟩) | (refine ⟨fun _ => ?_, fun h => absurd (nI_lt (by omega) (by omega)) h⟩) | (refine ⟨fun h => absurd ((nI_eq (by omega) (by omega)).mp h) (by omega), fun _ => ?_⟩) | (refine ⟨fun _ => ?_, fun h => absurd ((nI_eq (by omega) (by omega)).mp h) (by omega)⟩) | (refine ⟨fun h => absurd h (by decide), fun _ => ?_⟩) | (refine ⟨fun _ => ?_, fun h => absurd h (by decide)⟩) | (refine ⟨fun h => absurd rfl h, fun _ => ?_⟩) | (refine ⟨fun _ => ?_, fun h => absurd rfl h⟩)))
end WAE
