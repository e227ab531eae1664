/-! pairs of states, breadth first, over numbers -/
def mtB (q : Nat → Nat) : Nat → Nat → Bool
  | 0, _ => false
  | n + 1, p => mtB q n p || decide (q n = p)
theorem mtB_iff {q : Nat → Nat} {p : Nat} : ∀ n, mtB q n p = true ↔ ∃ j, j < n ∧ q j = p
  | 0 => ⟨fun h => (by cases h), fun ⟨j, h, _⟩ => absurd h (by omega)⟩
  | n + 1 => by
    unfold mtB
    rw [Bool.or_eq_true, mtB_iff n, decide_eq_true_eq]
    constructor
    · rintro (⟨j, h1, h2⟩ | h)
      · exact ⟨j, by omega, h2⟩
      · exact ⟨n, by omega, h⟩
    · rintro ⟨j, h1, h2⟩
      by_cases hj : j = n
      · subst hj; exact Or.inr h2
      · exact Or.inl ⟨j, by omega, h2⟩
def bE (P : Nat → Nat → Nat) (p0 : Nat) (L0 : List Nat) : Nat → Nat → Nat → (Nat → Nat) → (Nat → List Nat) → Nat × (Nat → Nat) × (Nat → List Nat)
  | 0, _, n, q, pt => (n, q, pt)
  | m + 1, e, n, q, pt => if mtB q n (P p0 e) || decide (P p0 e = 624) then bE P p0 L0 m (e + 1) n q pt else bE P p0 L0 m (e + 1) (n + 1) (va_up q n (P p0 e)) (va_up pt n (e :: L0))
def nwS (w : Option (List Nat)) (b : Bool) (L : List Nat) : Option (List Nat) := match w with
  | none => if b then none else some L
  | some L' => some L'
def bS (P : Nat → Nat → Nat) (r1 r2 : Nat → Bool) : Nat → Nat → Nat → (Nat → Nat) → (Nat → List Nat) → Bool → Bool → Option (List Nat) → Option (Bool × Bool × Option (List Nat))
  | 0, _, _, _, _, _, _, _ => none
  | K + 1, k, n, q, pt, oM, oN, w => if k < n then bS P r1 r2 K (k + 1) (bE P (q k) (pt k) 24 0 n q pt).1 (bE P (q k) (pt k) 24 0 n q pt).2.1 (bE P (q k) (pt k) 24 0 n q pt).2.2 (oM || (r1 (q k) && !r2 (q k))) (oN || (r2 (q k) && !r1 (q k))) (nwS w (r1 (q k) == r2 (q k)) (pt k)) else some (oM, oN, w)
/-- all pairs met are different, and good -/
def BQ (V : Nat → Prop) (n : Nat) (q : Nat → Nat) : Prop := (∀ j, j < n → q j < 624 ∧ V (q j)) ∧ ∀ i j, i < n → j < n → q i = q j → i = j
theorem BQ_n {V : Nat → Prop} {n : Nat} {q : Nat → Nat} (h : BQ V n q) : n ≤ 624 := pigeon 624 n q (fun i hi => (h.1 i hi).1) h.2
theorem BQ_add {V : Nat → Prop} {n : Nat} {q : Nat → Nat} (h : BQ V n q) {p : Nat} (hp : p < 624) (hV : V p) (hn : mtB q n p = false) : BQ V (n + 1) (va_up q n p) := by
  have hno : ∀ j, j < n → ¬ q j = p := fun j hj hq => by
    have := (mtB_iff (q := q) (p := p) n).mpr ⟨j, hj, hq⟩
    rw [hn] at this; cases this
  refine ⟨fun j hj => ?_, fun i j hi hj hij => ?_⟩
  · by_cases hjn : j = n
    · subst hjn; rw [va_up_s]; exact ⟨hp, hV⟩
    · rw [va_up_n hjn]; exact h.1 j (by omega)
  · by_cases hin : i = n <;> by_cases hjn : j = n
    · omega
    · subst hin; rw [va_up_s, va_up_n hjn] at hij; exact absurd hij.symm (hno j (by omega))
    · subst hjn; rw [va_up_s, va_up_n hin] at hij; exact absurd hij (hno i (by omega))
    · rw [va_up_n hin, va_up_n hjn] at hij; exact h.2 i j (by omega) (by omega) hij
theorem bE_inv {P : Nat → Nat → Nat} {V : Nat → Prop} {p0 : Nat} {L0 : List Nat} (hP : ∀ e, e < 24 → P p0 e < 625 ∧ V (P p0 e)) : ∀ (m e n : Nat) (q : Nat → Nat) (pt : Nat → List Nat), e + m ≤ 24 → BQ V n q → BQ V (bE P p0 L0 m e n q pt).1 (bE P p0 L0 m e n q pt).2.1 ∧ n ≤ (bE P p0 L0 m e n q pt).1 ∧ ∀ j, j < n → (bE P p0 L0 m e n q pt).2.1 j = q j ∧ (bE P p0 L0 m e n q pt).2.2 j = pt j
  | 0, e, n, q, pt, _, h => ⟨h, Nat.le_refl _, fun _ _ => ⟨rfl, rfl⟩⟩
  | m + 1, e, n, q, pt, he, h => by
    unfold bE
    cases hm : mtB q n (P p0 e) with
    | true => rw [Bool.true_or, if_pos rfl]; exact bE_inv hP m (e + 1) n q pt (by omega) h
    | false =>
      rw [Bool.false_or]
      by_cases h6 : P p0 e = 624
      · rw [if_pos (decide_eq_true h6)]; exact bE_inv hP m (e + 1) n q pt (by omega) h
      · rw [if_neg (by simpa using h6)]
        have hp := hP e (by omega)
        obtain ⟨i1, i2, i3⟩ := bE_inv hP m (e + 1) (n + 1) (va_up q n (P p0 e)) (va_up pt n (e :: L0)) (by omega) (BQ_add h (by omega) hp.2 hm)
        refine ⟨i1, by omega, fun j hj => ?_⟩
        obtain ⟨a, b⟩ := i3 j (by omega)
        rw [a, b, va_up_n (by omega), va_up_n (by omega)]
        exact ⟨rfl, rfl⟩
theorem bS_some {P : Nat → Nat → Nat} {V : Nat → Prop} {r1 r2 : Nat → Bool} (hP : ∀ p, V p → ∀ e, e < 24 → P p e < 625 ∧ V (P p e)) : ∀ (K k n : Nat) (q : Nat → Nat) (pt : Nat → List Nat) (oM oN : Bool) (w : Option (List Nat)), 625 ≤ k + K → k ≤ n → BQ V n q → ∃ r, bS P r1 r2 K k n q pt oM oN w = some r
  | 0, k, n, q, pt, oM, oN, w, hK, hk, h => by have := BQ_n h; omega
  | K + 1, k, n, q, pt, oM, oN, w, hK, hk, h => by
    unfold bS
    by_cases hkn : k < n
    · rw [if_pos hkn]
      obtain ⟨i1, i2, i3⟩ := bE_inv (L0 := pt k) (hP (q k) (h.1 k hkn).2) 24 0 n q pt (by omega) h
      exact bS_some hP K (k + 1) _ _ _ _ _ _ (by omega) (by omega) i1
    · rw [if_neg hkn]; exact ⟨_, rfl⟩
/-- a row told from its end on -/
def rowOf : List Nat → Nat → Nat
  | [], _ => 0
  | x :: L, i => if i = L.length then x else rowOf L i
/-- where a broken pair stands -/
def led (nx : Nat → Nat → Option Nat) (l e : Nat) : Nat := if l = 24 then 24 else (nx l e).getD 24
def pP (nx1 nx2 : Nat → Nat → Option Nat) (p e : Nat) : Nat := led nx1 (p / 25) e * 25 + led nx2 (p % 25) e
def pV (s1 s2 : Nat) (p : Nat) : Prop := (p / 25 = 24 ∨ p / 25 < s1) ∧ (p % 25 = 24 ∨ p % 25 < s2)
def pR (en : Nat → Bool) (l : Nat) : Bool := !decide (l = 24) && en l
theorem led_lt {nx : Nat → Nat → Option Nat} {s l e : Nat} (hnx : ∀ u, u < s → ∀ e, e < 24 → ∀ j, nx u e = some j → j < s) (hl : l = 24 ∨ l < s) (he : e < 24) : led nx l e = 24 ∨ led nx l e < s := by
  unfold led
  by_cases h : l = 24
  · rw [if_pos h]; exact Or.inl rfl
  · rw [if_neg h]
    cases hx : nx l e with
    | none => exact Or.inl rfl
    | some j => exact Or.inr (hnx l (by omega) e he j hx)
theorem pP_ok {nx1 nx2 : Nat → Nat → Option Nat} {s1 s2 : Nat} (h1 : ∀ u, u < s1 → ∀ e, e < 24 → ∀ j, nx1 u e = some j → j < s1) (h2 : ∀ u, u < s2 → ∀ e, e < 24 → ∀ j, nx2 u e = some j → j < s2) (hs1 : s1 ≤ 24) (hs2 : s2 ≤ 24) (p : Nat) (hp : pV s1 s2 p) (e : Nat) (he : e < 24) : pP nx1 nx2 p e < 625 ∧ pV s1 s2 (pP nx1 nx2 p e) := by
  have a := led_lt h1 hp.1 he
  have b := led_lt h2 hp.2 he
  unfold pV pP
  have e1 : (led nx1 (p / 25) e * 25 + led nx2 (p % 25) e) / 25 = led nx1 (p / 25) e := by omega
  have e2 : (led nx1 (p / 25) e * 25 + led nx2 (p % 25) e) % 25 = led nx2 (p % 25) e := by omega
  rw [e1, e2]
  exact ⟨by omega, a, b⟩
theorem pP_624 {nx1 nx2 : Nat → Nat → Option Nat} {e : Nat} : pP nx1 nx2 624 e = 624 := by
  unfold pP
  rw [show 624 / 25 = 24 from rfl, show 624 % 25 = 24 from rfl]
  unfold led
  rw [if_pos rfl, if_pos rfl]
/-- one less, or -1 -/
def dI (n : Nat) : Int32 := match n with
  | 0 => -1
  | n + 1 => nI n
theorem dI_m (n : Nat) : nI n + (-1) = dI n := by
  cases n with
  | zero => decide
  | succ n => exact pk_m1 n
theorem dI_s (n : Nat) : nI n - nI 1 = dI n := by
  cases n with
  | zero => decide
  | succ n => exact pk_sub (by omega)
section CMP
variable {G : px_G} {ph : List px_E} {d : Nat} {Q : Option Value → List px_E → Prop}
/-- the class's row of the pairs: from where and by what -/
def cPth (n : Nat) (q : Nat → Nat) (pt : Nat → List Nat) (cf cb : Nat → Int32) : Prop := ∀ j, j < n → (j = 0 ∧ q j = 0 ∧ pt j = []) ∨ (¬ q j = 0 ∧ ∃ i x, i < j ∧ cf (q j) = nI (q i) ∧ cb (q j) = nI x ∧ pt j = x :: pt i)
theorem cPth_len {n : Nat} {q : Nat → Nat} {pt : Nat → List Nat} {cf cb : Nat → Int32} (h : cPth n q pt cf cb) : ∀ m j, j ≤ m → j < n → (pt j).length ≤ j := by
  intro m
  induction m with
  | zero =>
    intro j hj hjn
    rcases h j hjn with ⟨h1, h2, h3⟩ | ⟨h1, i, x, h2, -⟩
    · rw [h3]; exact Nat.zero_le _
    · omega
  | succ m ih =>
    intro j hj hjn
    rcases h j hjn with ⟨h1, h2, h3⟩ | ⟨h1, i, x, h2, h3, h4, h5⟩
    · rw [h3]; exact Nat.zero_le _
    · rw [h5]
      have := ih i (by omega) (by omega)
      simp only [List.length_cons]
      omega
set_option maxRecDepth 100000 in
set_option maxHeartbeats 4000000 in
theorem c_X_tellRow {c k n : Nat} {q : Nat → Nat} {pt : Nat → List Nat} {cf cb r0 : Nat → Int32} {x0 : Int32} (hn : n ≤ 624) (hq : ∀ j, j < n → q j < 624) (hk : k < n) (hp : cPth n q pt cf cb) (h45 : ph[45]? = some (CM c x0)) (h47 : ph[47]? = some (IA 625 cf)) (h48 : ph[48]? = some (IA 625 cb)) (h49 : ph[49]? = some (IA 625 r0)) (hQ : ∀ r, (∀ i, i < (pt k).length → r i = nI (rowOf (pt k) i)) → Q none ((ph.set 45 (CM c (nI (pt k).length))).set 49 (IA 625 r))) : px_Met G mX2_tellRow d 0 0 [.ref 45, .int (nI (q k))] ph Q := by
  have hlen := cPth_len hp k k (Nat.le_refl _) hk
  refine px_start kX2_tellRow (Nat.le_of_ble_eq_true rfl) ?_
  show px_W G _ _ _ _ _ 0 0 0 [some (.ref 45), some (.int (nI (q k))), none, none, none] [] ph
  have back : ∀ (L : List Nat) (j : Nat) (r : Nat → Int32) (x2 : Int32), pt j = L → j < n → L.length ≤ 624 → (∀ r', (∀ i, i < L.length → r' i = nI (rowOf L i)) → (∀ i, L.length ≤ i → r' i = r i) → Q none ((ph.set 45 (CM c (nI (pt k).length))).set 49 (IA 625 r'))) → px_W G mX2_tellRow d 0 0 Q 0 0 42 [some (.ref 45), some (.int (nI (q k))), some (.int x2), some (.int (nI (q j))), some (.int (dI L.length))] [] ((ph.set 45 (CM c (nI (pt k).length))).set 49 (IA 625 r)) := by
    intro L
    induction L with
    | nil =>
      intro j r x2 hpt hj _ hq'
      have e : dI ([] : List Nat).length = -1 := rfl
      rw [e]
      (repeat (first | (refine px_st rfl rfl ?_; simp only [px_wp, px_at, px_set, px_set2, px_clr, px_ldi, px_ldl, px_lda, px_i1, px_i2, px_l1, px_l2, px_il, px_a1, px_r1, px_r2, px_ir, px_vir, px_g, px_v1, px_v2, px_gf, px_pf, px_ps, px_ar, px_nth, px_upd, px_zero, px_dfl, px_put_self, px_put_ne, px_sw, nI_add, pk_mul, true_and, and_true, Nat.reduceAdd, Nat.reduceLT, Nat.reduceEqDiff, List.length_cons, List.length_nil, true_or, or_true, List.set_set, ne_eq, not_false_eq_true, Fin.isValue, Fin.val_zero, Fin.val_one, Fin.val_two, reduceCtorEq, Option.map_some, List.length_set, Nat.zero_lt_succ, Option.toList_some, Option.toList_none, List.cons_append, List.nil_append, px_b_2, IA, LA, BA, ZA, QA, PT, DR, TL, MC, CD, CC, false_and, or_false, false_or, nar_b, nar_0, nar_1, nar_y]) | (refine ⟨_, rfl, by omega, ?_⟩) | (refine ⟨fun h => absurd h (nI_nlt (by omega) (by omega)), fun _ => ?_⟩) | (refine ⟨fun _ => ?_, fun h => absurd h (nI_nlt (by omega) (by omega))⟩) | (refine ⟨fun h => absurd (nI_lt (by omega) (by omega)) h, fun _ => ?_⟩) | (refine ⟨fun _ => ?_, fun h => absurd (nI_lt (by omega) (by omega)) h⟩) | (refine ⟨fun h => absurd ((nI_eq (by omega) (by omega)).mp h) (by omega), fun _ => ?_⟩) | (refine ⟨fun _ => ?_, fun h => absurd ((nI_eq (by omega) (by omega)).mp h) (by omega)⟩) | (refine ⟨fun h => absurd h (by decide), fun _ => ?_⟩) | (refine ⟨fun _ => ?_, fun h => absurd h (by decide)⟩) | (refine ⟨fun h => absurd rfl h, fun _ => ?_⟩) | (refine ⟨fun _ => ?_, fun h => absurd rfl h⟩)))
      exact px_return rfl rfl (Nat.le_refl _) (Nat.le_refl _) (hq' r (fun i hi => absurd hi (by simp)) (fun _ _ => rfl))
    | cons x L ih =>
      intro j r x2 hpt hj hl hq'
      have hl' : L.length + 1 ≤ 624 := hl
      have hqj := hq j hj
      rcases hp j hj with ⟨h1, h2, h3⟩ | ⟨h1, i, x', h2, h3, h4, h5⟩
      · rw [h3] at hpt; cases hpt
      · rw [h5] at hpt
        cases hpt
        have hqi := hq i (by omega)
        have e : dI (x :: pt i).length = nI (pt i).length := rfl
        rw [e]
        (repeat (first | (exact ih i (upd r (pt i).length (nI x)) x2 rfl (by omega) (by omega) (fun r' a1 a2 => hq' r' (fun y hy => by
          unfold rowOf
          by_cases hyl : y = (pt i).length
          · rw [if_pos hyl, a2 y (by omega), hyl, pk_us]
          · rw [if_neg hyl]
            have hy' : y < (pt i).length + 1 := hy
            exact a1 y (by omega)) (fun y hy => by
          have hy' : (pt i).length + 1 ≤ y := hy
          rw [a2 y (by omega)]
          unfold upd
          rw [if_neg (by omega)]))) | (refine px_st rfl rfl ?_; simp only [px_wp, px_at, px_set, px_set2, px_clr, px_ldi, px_ldl, px_lda, px_i1, px_i2, px_l1, px_l2, px_il, px_a1, px_r1, px_r2, px_ir, px_vir, px_g, px_v1, px_v2, px_gf, px_pf, px_ps, px_ar, px_nth, px_upd, px_zero, px_dfl, px_put_self, px_put_ne, px_sw, nI_add, pk_mul, true_and, and_true, Nat.reduceAdd, Nat.reduceLT, Nat.reduceEqDiff, List.length_cons, List.length_nil, true_or, or_true, List.set_set, ne_eq, not_false_eq_true, Fin.isValue, Fin.val_zero, Fin.val_one, Fin.val_two, reduceCtorEq, Option.map_some, List.length_set, Nat.zero_lt_succ, Option.toList_some, Option.toList_none, List.cons_append, List.nil_append, px_b_2, IA, LA, BA, ZA, QA, PT, DR, TL, MC, CD, CC, false_and, or_false, false_or, nar_b, nar_0, nar_1, nar_y, h45, h47, h48, h49, h3, h4, dI_m]) | (refine ⟨_, rfl, by omega, ?_⟩) | (refine ⟨fun h => absurd h (nI_nlt (by omega) (by omega)), fun _ => ?_⟩) | (refine ⟨fun _ => ?_, fun h => absurd h (nI_nlt (by omega) (by omega))⟩) | (refine ⟨fun h => absurd (nI_lt (by omega) (by omega)) h, fun _ => ?_⟩) | (refine ⟨fun _ => ?_, fun h => absurd (nI_lt (by omega) (by omega)) h⟩) | (refine ⟨fun h => absurd ((nI_eq (by omega) (by omega)).mp h) (by omega), fun _ => ?_⟩) | (refine ⟨fun _ => ?_, fun h => absurd ((nI_eq (by omega) (by omega)).mp h) (by omega)⟩) | (refine ⟨fun h => absurd h (by decide), fun _ => ?_⟩) | (refine ⟨fun _ => ?_, fun h => absurd h (by decide)⟩) | (refine ⟨fun h => absurd rfl h, fun _ => ?_⟩) | (refine ⟨fun _ => ?_, fun h => absurd rfl h⟩)))
  have count : ∀ (L : List Nat) (j l : Nat), pt j = L → j < n → l + L.length = (pt k).length → px_W G mX2_tellRow d 0 0 Q 0 0 4 [some (.ref 45), some (.int (nI (q k))), some (.int (nI l)), some (.int (nI (q j))), none] [] ph := by
    intro L
    induction L with
    | nil =>
      intro j l hpt hj hl
      have hl' : l = (pt k).length := hl
      have hb := back (pt k) k r0 (nI l) rfl hk (by omega) (fun r' a1 _ => hQ r' a1)
      rw [px_put_id (o := 49) (by rw [px_put_ne (by decide)]; exact h49)] at hb
      rcases hp j hj with ⟨h1, h2, h3⟩ | ⟨h1, i, x', h2, h3, h4, h5⟩
      · rw [h2]
        subst hl'
        (repeat (first | (exact hb) | (refine px_st rfl rfl ?_; simp only [px_wp, px_at, px_set, px_set2, px_clr, px_ldi, px_ldl, px_lda, px_i1, px_i2, px_l1, px_l2, px_il, px_a1, px_r1, px_r2, px_ir, px_vir, px_g, px_v1, px_v2, px_gf, px_pf, px_ps, px_ar, px_nth, px_upd, px_zero, px_dfl, px_put_self, px_put_ne, px_sw, nI_add, pk_mul, true_and, and_true, Nat.reduceAdd, Nat.reduceLT, Nat.reduceEqDiff, List.length_cons, List.length_nil, true_or, or_true, List.set_set, ne_eq, not_false_eq_true, Fin.isValue, Fin.val_zero, Fin.val_one, Fin.val_two, reduceCtorEq, Option.map_some, List.length_set, Nat.zero_lt_succ, Option.toList_some, Option.toList_none, List.cons_append, List.nil_append, px_b_2, IA, LA, BA, ZA, QA, PT, DR, TL, MC, CD, CC, false_and, or_false, false_or, nar_b, nar_0, nar_1, nar_y, h45, dI_s]) | (refine ⟨_, rfl, by omega, ?_⟩) | (refine ⟨fun h => absurd h (nI_nlt (by omega) (by omega)), fun _ => ?_⟩) | (refine ⟨fun _ => ?_, fun h => absurd h (nI_nlt (by omega) (by omega))⟩) | (refine ⟨fun h => absurd (nI_lt (by omega) (by omega)) h, fun _ => ?_⟩) | (refine ⟨fun _ => ?_, fun h => absurd (nI_lt (by omega) (by omega)) h⟩) | (refine ⟨fun h => absurd ((nI_eq (by omega) (by omega)).mp h) (by omega), fun _ => ?_⟩) | (refine ⟨fun _ => ?_, fun h => absurd ((nI_eq (by omega) (by omega)).mp h) (by omega)⟩) | (refine ⟨fun h => absurd h (by decide), fun _ => ?_⟩) | (refine ⟨fun _ => ?_, fun h => absurd h (by decide)⟩) | (refine ⟨fun h => absurd rfl h, fun _ => ?_⟩) | (refine ⟨fun _ => ?_, fun h => absurd rfl h⟩)))
      · rw [h5] at hpt; cases hpt
    | cons x L ih =>
      intro j l hpt hj hl
      have hl' : l + (L.length + 1) = (pt k).length := hl
      have hqj := hq j hj
      rcases hp j hj with ⟨h1, h2, h3⟩ | ⟨h1, i, x', h2, h3, h4, h5⟩
      · rw [h3] at hpt; cases hpt
      · rw [h5] at hpt
        cases hpt
        have h47' : ph[47]? = some (IA 625 cf) := h47
        (repeat (first | (first | exact ih i (l + 1) rfl (by omega) (by omega) | refine ⟨by decide, ?_⟩) | (refine px_st rfl rfl ?_; simp only [px_wp, px_at, px_set, px_set2, px_clr, px_ldi, px_ldl, px_lda, px_i1, px_i2, px_l1, px_l2, px_il, px_a1, px_r1, px_r2, px_ir, px_vir, px_g, px_v1, px_v2, px_gf, px_pf, px_ps, px_ar, px_nth, px_upd, px_zero, px_dfl, px_put_self, px_put_ne, px_sw, nI_add, pk_mul, true_and, and_true, Nat.reduceAdd, Nat.reduceLT, Nat.reduceEqDiff, List.length_cons, List.length_nil, true_or, or_true, List.set_set, ne_eq, not_false_eq_true, Fin.isValue, Fin.val_zero, Fin.val_one, Fin.val_two, reduceCtorEq, Option.map_some, List.length_set, Nat.zero_lt_succ, Option.toList_some, Option.toList_none, List.cons_append, List.nil_append, px_b_2, IA, LA, BA, ZA, QA, PT, DR, TL, MC, CD, CC, false_and, or_false, false_or, nar_b, nar_0, nar_1, nar_y, h45, h47, h49, h3]) | (refine ⟨_, rfl, by omega, ?_⟩) | (refine ⟨fun h => absurd h (nI_nlt (by omega) (by omega)), fun _ => ?_⟩) | (refine ⟨fun _ => ?_, fun h => absurd h (nI_nlt (by omega) (by omega))⟩) | (refine ⟨fun h => absurd (nI_lt (by omega) (by omega)) h, fun _ => ?_⟩) | (refine ⟨fun _ => ?_, fun h => absurd (nI_lt (by omega) (by omega)) h⟩) | (refine ⟨fun h => absurd ((nI_eq (by omega) (by omega)).mp h) (by omega), fun _ => ?_⟩) | (refine ⟨fun _ => ?_, fun h => absurd ((nI_eq (by omega) (by omega)).mp h) (by omega)⟩) | (refine ⟨fun h => absurd h (by decide), fun _ => ?_⟩) | (refine ⟨fun _ => ?_, fun h => absurd h (by decide)⟩) | (refine ⟨fun h => absurd rfl h, fun _ => ?_⟩) | (refine ⟨fun _ => ?_, fun h => absurd rfl h⟩)))
  (repeat (first | (exact count (pt k) k 0 rfl hk (by omega)) | (refine ⟨_, rfl, by omega, ?_⟩) | (refine px_st rfl rfl ?_; simp only [px_wp, px_at, px_set, px_set2, px_clr, px_ldi, px_ldl, px_lda, px_i1, px_i2, px_l1, px_l2, px_il, px_a1, px_r1, px_r2, px_ir, px_vir, px_g, px_v1, px_v2, px_gf, px_pf, px_ps, px_ar, px_nth, px_upd, px_zero, px_dfl, px_put_self, px_put_ne, px_sw, nI_add, pk_mul, true_and, and_true, Nat.reduceAdd, Nat.reduceLT, Nat.reduceEqDiff, List.length_cons, List.length_nil, true_or, or_true, List.set_set, ne_eq, not_false_eq_true, Fin.isValue, Fin.val_zero, Fin.val_one, Fin.val_two, reduceCtorEq, Option.map_some, List.length_set, Nat.zero_lt_succ, Option.toList_some, Option.toList_none, List.cons_append, List.nil_append, px_b_2, IA, LA, BA, ZA, QA, PT, DR, TL, MC, CD, CC, false_and, or_false, false_or, nar_b, nar_0, nar_1, nar_y])))
set_option maxRecDepth 100000 in
set_option maxHeartbeats 4000000 in
theorem c_X_pairBehind {a b s1 s2 p1 q1 p2 q2 l r e : Nat} {z1 z2 : Bool} {f1 f2 : Nat → Int32} {nx1 nx2 : Nat → Nat → Option Nat} (hs1 : s1 ≤ 24) (hs2 : s2 ≤ 24) (hn1 : ∀ u, u < s1 → ∀ e, e < 24 → ∀ j, nx1 u e = some j → j < s1) (hn2 : ∀ u, u < s2 → ∀ e, e < 24 → ∀ j, nx2 u e = some j → j < s2) (ha : ph[a]? = some (MC s1 z1 p1 q1)) (hb : ph[b]? = some (MC s2 z2 p2 q2)) (hp1 : ph[p1]? = some (IA (s1 * 24) f1)) (hp2 : ph[p2]? = some (IA (s2 * 24) f2)) (hf1 : ∀ u, u < s1 → ∀ e, e < 24 → f1 (u * 24 + e) = oI (nx1 u e)) (hf2 : ∀ u, u < s2 → ∀ e, e < 24 → f2 (u * 24 + e) = oI (nx2 u e)) (hl : l = 24 ∨ l < s1) (hr : r = 24 ∨ r < s2) (he : e < 24) (hQ : Q (some (.int (nI (led nx1 l e * 25 + led nx2 r e)))) ph) : px_Met G mX2_pairBehind (d + 1) 0 0 [.ref a, .int (nI l), .ref b, .int (nI r), .int (nI e)] ph Q := by
  refine px_start kX2_pairBehind (Nat.le_of_ble_eq_true rfl) ?_
  show px_W G _ _ _ _ _ 0 0 0 [some (.ref a), some (.int (nI l)), some (.ref b), some (.int (nI r)), some (.int (nI e)), none, none] [] ph
  -- behind both
  have fin : ∀ x y : Option Nat, (∀ j, x = some j → j < 24) → (∀ j, y = some j → j < 24) → x.getD 24 = led nx1 l e → y.getD 24 = led nx2 r e → px_W G mX2_pairBehind (d + 1) 0 0 Q 0 0 40 [some (.ref a), some (.int (nI l)), some (.ref b), some (.int (nI r)), some (.int (nI e)), some (.int (oI x)), some (.int (oI y))] [] ph := by
    intro x y hx hy ex ey
    rw [← ex, ← ey] at hQ
    cases x with
    | none =>
      have o1 : oI none = -2 := rfl
      cases y with
      | none =>
        rw [o1]
        (repeat (first | (refine px_st rfl rfl ?_; simp only [px_wp, px_at, px_set, px_set2, px_clr, px_ldi, px_ldl, px_lda, px_i1, px_i2, px_l1, px_l2, px_il, px_a1, px_r1, px_r2, px_ir, px_vir, px_g, px_v1, px_v2, px_gf, px_pf, px_ps, px_ar, px_nth, px_upd, px_zero, px_dfl, px_put_self, px_put_ne, px_sw, nI_add, pk_mul, true_and, and_true, Nat.reduceAdd, Nat.reduceLT, Nat.reduceEqDiff, List.length_cons, List.length_nil, true_or, or_true, List.set_set, ne_eq, not_false_eq_true, Fin.isValue, Fin.val_zero, Fin.val_one, Fin.val_two, reduceCtorEq, Option.map_some, List.length_set, Nat.zero_lt_succ, Option.toList_some, Option.toList_none, List.cons_append, List.nil_append, px_b_2, IA, LA, BA, ZA, QA, PT, DR, TL, MC, CD, CC, false_and, or_false, false_or, nar_b, nar_0, nar_1, nar_y]) | (refine ⟨_, rfl, by omega, ?_⟩) | (refine ⟨fun h => absurd h (nI_nlt (by omega) (by omega)), fun _ => ?_⟩) | (refine ⟨fun _ => ?_, fun h => absurd h (nI_nlt (by omega) (by omega))⟩) | (refine ⟨fun h => absurd (nI_lt (by omega) (by omega)) h, fun _ => ?_⟩) | (refine ⟨fun _ => ?_, fun h => absurd (nI_lt (by omega) (by omega)) h⟩) | (refine ⟨fun h => absurd ((nI_eq (by omega) (by omega)).mp h) (by omega), fun _ => ?_⟩) | (refine ⟨fun _ => ?_, fun h => absurd ((nI_eq (by omega) (by omega)).mp h) (by omega)⟩) | (refine ⟨fun h => absurd h (by decide), fun _ => ?_⟩) | (refine ⟨fun _ => ?_, fun h => absurd h (by decide)⟩) | (refine ⟨fun h => absurd rfl h, fun _ => ?_⟩) | (refine ⟨fun _ => ?_, fun h => absurd rfl h⟩)))
        exact px_ireturn rfl (Or.inl rfl) (Nat.le_refl _) (Nat.le_refl _) hQ
      | some j =>
        have o2 : oI (some j) = nI j := rfl
        have hj := hy j rfl
        have hne := nI_m2 (show j < 2 ^ 31 by omega)
        rw [o1, o2]
        (repeat (first | (refine ⟨fun _ => ?_, fun h => absurd h hne⟩) | (refine px_st rfl rfl ?_; simp only [px_wp, px_at, px_set, px_set2, px_clr, px_ldi, px_ldl, px_lda, px_i1, px_i2, px_l1, px_l2, px_il, px_a1, px_r1, px_r2, px_ir, px_vir, px_g, px_v1, px_v2, px_gf, px_pf, px_ps, px_ar, px_nth, px_upd, px_zero, px_dfl, px_put_self, px_put_ne, px_sw, nI_add, pk_mul, true_and, and_true, Nat.reduceAdd, Nat.reduceLT, Nat.reduceEqDiff, List.length_cons, List.length_nil, true_or, or_true, List.set_set, ne_eq, not_false_eq_true, Fin.isValue, Fin.val_zero, Fin.val_one, Fin.val_two, reduceCtorEq, Option.map_some, List.length_set, Nat.zero_lt_succ, Option.toList_some, Option.toList_none, List.cons_append, List.nil_append, px_b_2, IA, LA, BA, ZA, QA, PT, DR, TL, MC, CD, CC, false_and, or_false, false_or, nar_b, nar_0, nar_1, nar_y]) | (refine ⟨_, rfl, by omega, ?_⟩) | (refine ⟨fun h => absurd h (nI_nlt (by omega) (by omega)), fun _ => ?_⟩) | (refine ⟨fun _ => ?_, fun h => absurd h (nI_nlt (by omega) (by omega))⟩) | (refine ⟨fun h => absurd (nI_lt (by omega) (by omega)) h, fun _ => ?_⟩) | (refine ⟨fun _ => ?_, fun h => absurd (nI_lt (by omega) (by omega)) h⟩) | (refine ⟨fun h => absurd ((nI_eq (by omega) (by omega)).mp h) (by omega), fun _ => ?_⟩) | (refine ⟨fun _ => ?_, fun h => absurd ((nI_eq (by omega) (by omega)).mp h) (by omega)⟩) | (refine ⟨fun h => absurd h (by decide), fun _ => ?_⟩) | (refine ⟨fun _ => ?_, fun h => absurd h (by decide)⟩) | (refine ⟨fun h => absurd rfl h, fun _ => ?_⟩) | (refine ⟨fun _ => ?_, fun h => absurd rfl h⟩)))
        exact px_ireturn rfl (Or.inl rfl) (Nat.le_refl _) (Nat.le_refl _) hQ
    | some i =>
      have o1 : oI (some i) = nI i := rfl
      have hi := hx i rfl
      have hne1 := nI_m2 (show i < 2 ^ 31 by omega)
      cases y with
      | none =>
        have o2 : oI none = -2 := rfl
        rw [o1, o2]
        (repeat (first | (refine ⟨fun _ => ?_, fun h => absurd h hne1⟩) | (refine px_st rfl rfl ?_; simp only [px_wp, px_at, px_set, px_set2, px_clr, px_ldi, px_ldl, px_lda, px_i1, px_i2, px_l1, px_l2, px_il, px_a1, px_r1, px_r2, px_ir, px_vir, px_g, px_v1, px_v2, px_gf, px_pf, px_ps, px_ar, px_nth, px_upd, px_zero, px_dfl, px_put_self, px_put_ne, px_sw, nI_add, pk_mul, true_and, and_true, Nat.reduceAdd, Nat.reduceLT, Nat.reduceEqDiff, List.length_cons, List.length_nil, true_or, or_true, List.set_set, ne_eq, not_false_eq_true, Fin.isValue, Fin.val_zero, Fin.val_one, Fin.val_two, reduceCtorEq, Option.map_some, List.length_set, Nat.zero_lt_succ, Option.toList_some, Option.toList_none, List.cons_append, List.nil_append, px_b_2, IA, LA, BA, ZA, QA, PT, DR, TL, MC, CD, CC, false_and, or_false, false_or, nar_b, nar_0, nar_1, nar_y]) | (refine ⟨_, rfl, by omega, ?_⟩) | (refine ⟨fun h => absurd h (nI_nlt (by omega) (by omega)), fun _ => ?_⟩) | (refine ⟨fun _ => ?_, fun h => absurd h (nI_nlt (by omega) (by omega))⟩) | (refine ⟨fun h => absurd (nI_lt (by omega) (by omega)) h, fun _ => ?_⟩) | (refine ⟨fun _ => ?_, fun h => absurd (nI_lt (by omega) (by omega)) h⟩) | (refine ⟨fun h => absurd ((nI_eq (by omega) (by omega)).mp h) (by omega), fun _ => ?_⟩) | (refine ⟨fun _ => ?_, fun h => absurd ((nI_eq (by omega) (by omega)).mp h) (by omega)⟩) | (refine ⟨fun h => absurd h (by decide), fun _ => ?_⟩) | (refine ⟨fun _ => ?_, fun h => absurd h (by decide)⟩) | (refine ⟨fun h => absurd rfl h, fun _ => ?_⟩) | (refine ⟨fun _ => ?_, fun h => absurd rfl h⟩)))
        exact px_ireturn rfl (Or.inl rfl) (Nat.le_refl _) (Nat.le_refl _) hQ
      | some j =>
        have o2 : oI (some j) = nI j := rfl
        have hj := hy j rfl
        have hne := nI_m2 (show j < 2 ^ 31 by omega)
        rw [o1, o2]
        (repeat (first | (first | refine ⟨fun _ => ?_, fun h => absurd h hne1⟩ | refine ⟨fun _ => ?_, fun h => absurd h hne⟩) | (refine px_st rfl rfl ?_; simp only [px_wp, px_at, px_set, px_set2, px_clr, px_ldi, px_ldl, px_lda, px_i1, px_i2, px_l1, px_l2, px_il, px_a1, px_r1, px_r2, px_ir, px_vir, px_g, px_v1, px_v2, px_gf, px_pf, px_ps, px_ar, px_nth, px_upd, px_zero, px_dfl, px_put_self, px_put_ne, px_sw, nI_add, pk_mul, true_and, and_true, Nat.reduceAdd, Nat.reduceLT, Nat.reduceEqDiff, List.length_cons, List.length_nil, true_or, or_true, List.set_set, ne_eq, not_false_eq_true, Fin.isValue, Fin.val_zero, Fin.val_one, Fin.val_two, reduceCtorEq, Option.map_some, List.length_set, Nat.zero_lt_succ, Option.toList_some, Option.toList_none, List.cons_append, List.nil_append, px_b_2, IA, LA, BA, ZA, QA, PT, DR, TL, MC, CD, CC, false_and, or_false, false_or, nar_b, nar_0, nar_1, nar_y]) | (refine ⟨_, rfl, by omega, ?_⟩) | (refine ⟨fun h => absurd h (nI_nlt (by omega) (by omega)), fun _ => ?_⟩) | (refine ⟨fun _ => ?_, fun h => absurd h (nI_nlt (by omega) (by omega))⟩) | (refine ⟨fun h => absurd (nI_lt (by omega) (by omega)) h, fun _ => ?_⟩) | (refine ⟨fun _ => ?_, fun h => absurd (nI_lt (by omega) (by omega)) h⟩) | (refine ⟨fun h => absurd ((nI_eq (by omega) (by omega)).mp h) (by omega), fun _ => ?_⟩) | (refine ⟨fun _ => ?_, fun h => absurd ((nI_eq (by omega) (by omega)).mp h) (by omega)⟩) | (refine ⟨fun h => absurd h (by decide), fun _ => ?_⟩) | (refine ⟨fun _ => ?_, fun h => absurd h (by decide)⟩) | (refine ⟨fun h => absurd rfl h, fun _ => ?_⟩) | (refine ⟨fun _ => ?_, fun h => absurd rfl h⟩)))
        exact px_ireturn rfl (Or.inl rfl) (Nat.le_refl _) (Nat.le_refl _) hQ
  have second : ∀ x : Option Nat, (∀ j, x = some j → j < 24) → x.getD 24 = led nx1 l e → px_W G mX2_pairBehind (d + 1) 0 0 Q 0 0 20 [some (.ref a), some (.int (nI l)), some (.ref b), some (.int (nI r)), some (.int (nI e)), some (.int (oI x)), none] [] ph := by
    intro x hx ex
    by_cases hr24 : r = 24
    · have hf := fin x none hx (fun j q => by cases q) ex (by unfold led; rw [if_pos hr24]; rfl)
      have o2 : oI none = -2 := rfl
      rw [o2] at hf
      subst hr24
      (repeat (first | (exact hf) | (refine px_st rfl rfl ?_; simp only [px_wp, px_at, px_set, px_set2, px_clr, px_ldi, px_ldl, px_lda, px_i1, px_i2, px_l1, px_l2, px_il, px_a1, px_r1, px_r2, px_ir, px_vir, px_g, px_v1, px_v2, px_gf, px_pf, px_ps, px_ar, px_nth, px_upd, px_zero, px_dfl, px_put_self, px_put_ne, px_sw, nI_add, pk_mul, true_and, and_true, Nat.reduceAdd, Nat.reduceLT, Nat.reduceEqDiff, List.length_cons, List.length_nil, true_or, or_true, List.set_set, ne_eq, not_false_eq_true, Fin.isValue, Fin.val_zero, Fin.val_one, Fin.val_two, reduceCtorEq, Option.map_some, List.length_set, Nat.zero_lt_succ, Option.toList_some, Option.toList_none, List.cons_append, List.nil_append, px_b_2, IA, LA, BA, ZA, QA, PT, DR, TL, MC, CD, CC, false_and, or_false, false_or, nar_b, nar_0, nar_1, nar_y]) | (refine ⟨_, rfl, by omega, ?_⟩) | (refine ⟨fun h => absurd h (nI_nlt (by omega) (by omega)), fun _ => ?_⟩) | (refine ⟨fun _ => ?_, fun h => absurd h (nI_nlt (by omega) (by omega))⟩) | (refine ⟨fun h => absurd (nI_lt (by omega) (by omega)) h, fun _ => ?_⟩) | (refine ⟨fun _ => ?_, fun h => absurd (nI_lt (by omega) (by omega)) h⟩) | (refine ⟨fun h => absurd ((nI_eq (by omega) (by omega)).mp h) (by omega), fun _ => ?_⟩) | (refine ⟨fun _ => ?_, fun h => absurd ((nI_eq (by omega) (by omega)).mp h) (by omega)⟩) | (refine ⟨fun h => absurd h (by decide), fun _ => ?_⟩) | (refine ⟨fun _ => ?_, fun h => absurd h (by decide)⟩) | (refine ⟨fun h => absurd rfl h, fun _ => ?_⟩) | (refine ⟨fun _ => ?_, fun h => absurd rfl h⟩)))
    · have hr' : r < s2 := by omega
      have hf := fin x (nx2 r e) hx (fun j q => by have := hn2 r hr' e he j q; omega) ex (by unfold led; rw [if_neg hr24])
      (repeat (first | (refine px_st rfl rfl ?_; simp only [px_wp, px_at, px_set, px_set2, px_clr, px_ldi, px_ldl, px_lda, px_i1, px_i2, px_l1, px_l2, px_il, px_a1, px_r1, px_r2, px_ir, px_vir, px_g, px_v1, px_v2, px_gf, px_pf, px_ps, px_ar, px_nth, px_upd, px_zero, px_dfl, px_put_self, px_put_ne, px_sw, nI_add, pk_mul, true_and, and_true, Nat.reduceAdd, Nat.reduceLT, Nat.reduceEqDiff, List.length_cons, List.length_nil, true_or, or_true, List.set_set, ne_eq, not_false_eq_true, Fin.isValue, Fin.val_zero, Fin.val_one, Fin.val_two, reduceCtorEq, Option.map_some, List.length_set, Nat.zero_lt_succ, Option.toList_some, Option.toList_none, List.cons_append, List.nil_append, px_b_2, IA, LA, BA, ZA, QA, PT, DR, TL, MC, CD, CC, false_and, or_false, false_or, nar_b, nar_0, nar_1, nar_y]) | (refine ⟨_, rfl, by omega, ?_⟩) | (refine ⟨fun h => absurd h (nI_nlt (by omega) (by omega)), fun _ => ?_⟩) | (refine ⟨fun _ => ?_, fun h => absurd h (nI_nlt (by omega) (by omega))⟩) | (refine ⟨fun h => absurd (nI_lt (by omega) (by omega)) h, fun _ => ?_⟩) | (refine ⟨fun _ => ?_, fun h => absurd (nI_lt (by omega) (by omega)) h⟩) | (refine ⟨fun h => absurd ((nI_eq (by omega) (by omega)).mp h) (by omega), fun _ => ?_⟩) | (refine ⟨fun _ => ?_, fun h => absurd ((nI_eq (by omega) (by omega)).mp h) (by omega)⟩) | (refine ⟨fun h => absurd h (by decide), fun _ => ?_⟩) | (refine ⟨fun _ => ?_, fun h => absurd h (by decide)⟩) | (refine ⟨fun h => absurd rfl h, fun _ => ?_⟩) | (refine ⟨fun _ => ?_, fun h => absurd rfl h⟩)))
      refine px_cV rfl rfl kX6_leads rfl (c_M_leads hb hp2 hr' he ?_) (Nat.le_refl _) hb rfl rfl rfl (Nat.le_of_ble_eq_true rfl) (Nat.zero_le _) (Nat.zero_le _)
      rw [hf2 r hr' e he]
      (repeat (first | (exact hf) | (refine ⟨_, rfl, by omega, ?_⟩) | (refine px_st rfl rfl ?_; simp only [px_wp, px_at, px_set, px_set2, px_clr, px_ldi, px_ldl, px_lda, px_i1, px_i2, px_l1, px_l2, px_il, px_a1, px_r1, px_r2, px_ir, px_vir, px_g, px_v1, px_v2, px_gf, px_pf, px_ps, px_ar, px_nth, px_upd, px_zero, px_dfl, px_put_self, px_put_ne, px_sw, nI_add, pk_mul, true_and, and_true, Nat.reduceAdd, Nat.reduceLT, Nat.reduceEqDiff, List.length_cons, List.length_nil, true_or, or_true, List.set_set, ne_eq, not_false_eq_true, Fin.isValue, Fin.val_zero, Fin.val_one, Fin.val_two, reduceCtorEq, Option.map_some, List.length_set, Nat.zero_lt_succ, Option.toList_some, Option.toList_none, List.cons_append, List.nil_append, px_b_2, IA, LA, BA, ZA, QA, PT, DR, TL, MC, CD, CC, false_and, or_false, false_or, nar_b, nar_0, nar_1, nar_y])))
  by_cases hl24 : l = 24
  · have hf := second none (fun j q => by cases q) (by unfold led; rw [if_pos hl24]; rfl)
    have o2 : oI none = -2 := rfl
    rw [o2] at hf
    subst hl24
    (repeat (first | (exact hf) | (refine px_st rfl rfl ?_; simp only [px_wp, px_at, px_set, px_set2, px_clr, px_ldi, px_ldl, px_lda, px_i1, px_i2, px_l1, px_l2, px_il, px_a1, px_r1, px_r2, px_ir, px_vir, px_g, px_v1, px_v2, px_gf, px_pf, px_ps, px_ar, px_nth, px_upd, px_zero, px_dfl, px_put_self, px_put_ne, px_sw, nI_add, pk_mul, true_and, and_true, Nat.reduceAdd, Nat.reduceLT, Nat.reduceEqDiff, List.length_cons, List.length_nil, true_or, or_true, List.set_set, ne_eq, not_false_eq_true, Fin.isValue, Fin.val_zero, Fin.val_one, Fin.val_two, reduceCtorEq, Option.map_some, List.length_set, Nat.zero_lt_succ, Option.toList_some, Option.toList_none, List.cons_append, List.nil_append, px_b_2, IA, LA, BA, ZA, QA, PT, DR, TL, MC, CD, CC, false_and, or_false, false_or, nar_b, nar_0, nar_1, nar_y]) | (refine ⟨_, rfl, by omega, ?_⟩) | (refine ⟨fun h => absurd h (nI_nlt (by omega) (by omega)), fun _ => ?_⟩) | (refine ⟨fun _ => ?_, fun h => absurd h (nI_nlt (by omega) (by omega))⟩) | (refine ⟨fun h => absurd (nI_lt (by omega) (by omega)) h, fun _ => ?_⟩) | (refine ⟨fun _ => ?_, fun h => absurd (nI_lt (by omega) (by omega)) h⟩) | (refine ⟨fun h => absurd ((nI_eq (by omega) (by omega)).mp h) (by omega), fun _ => ?_⟩) | (refine ⟨fun _ => ?_, fun h => absurd ((nI_eq (by omega) (by omega)).mp h) (by omega)⟩) | (refine ⟨fun h => absurd h (by decide), fun _ => ?_⟩) | (refine ⟨fun _ => ?_, fun h => absurd h (by decide)⟩) | (refine ⟨fun h => absurd rfl h, fun _ => ?_⟩) | (refine ⟨fun _ => ?_, fun h => absurd rfl h⟩)))
  · have hl' : l < s1 := by omega
    have hf := second (nx1 l e) (fun j q => by have := hn1 l hl' e he j q; omega) (by unfold led; rw [if_neg hl24])
    (repeat (first | (refine px_st rfl rfl ?_; simp only [px_wp, px_at, px_set, px_set2, px_clr, px_ldi, px_ldl, px_lda, px_i1, px_i2, px_l1, px_l2, px_il, px_a1, px_r1, px_r2, px_ir, px_vir, px_g, px_v1, px_v2, px_gf, px_pf, px_ps, px_ar, px_nth, px_upd, px_zero, px_dfl, px_put_self, px_put_ne, px_sw, nI_add, pk_mul, true_and, and_true, Nat.reduceAdd, Nat.reduceLT, Nat.reduceEqDiff, List.length_cons, List.length_nil, true_or, or_true, List.set_set, ne_eq, not_false_eq_true, Fin.isValue, Fin.val_zero, Fin.val_one, Fin.val_two, reduceCtorEq, Option.map_some, List.length_set, Nat.zero_lt_succ, Option.toList_some, Option.toList_none, List.cons_append, List.nil_append, px_b_2, IA, LA, BA, ZA, QA, PT, DR, TL, MC, CD, CC, false_and, or_false, false_or, nar_b, nar_0, nar_1, nar_y]) | (refine ⟨_, rfl, by omega, ?_⟩) | (refine ⟨fun h => absurd h (nI_nlt (by omega) (by omega)), fun _ => ?_⟩) | (refine ⟨fun _ => ?_, fun h => absurd h (nI_nlt (by omega) (by omega))⟩) | (refine ⟨fun h => absurd (nI_lt (by omega) (by omega)) h, fun _ => ?_⟩) | (refine ⟨fun _ => ?_, fun h => absurd (nI_lt (by omega) (by omega)) h⟩) | (refine ⟨fun h => absurd ((nI_eq (by omega) (by omega)).mp h) (by omega), fun _ => ?_⟩) | (refine ⟨fun _ => ?_, fun h => absurd ((nI_eq (by omega) (by omega)).mp h) (by omega)⟩) | (refine ⟨fun h => absurd h (by decide), fun _ => ?_⟩) | (refine ⟨fun _ => ?_, fun h => absurd h (by decide)⟩) | (refine ⟨fun h => absurd rfl h, fun _ => ?_⟩) | (refine ⟨fun _ => ?_, fun h => absurd rfl h⟩)))
    refine px_cV rfl rfl kX6_leads rfl (c_M_leads ha hp1 hl' he ?_) (Nat.le_refl _) ha rfl rfl rfl (Nat.le_of_ble_eq_true rfl) (Nat.zero_le _) (Nat.zero_le _)
    rw [hf1 l hl' e he]
    (repeat (first | (exact hf) | (refine ⟨_, rfl, by omega, ?_⟩) | (refine px_st rfl rfl ?_; simp only [px_wp, px_at, px_set, px_set2, px_clr, px_ldi, px_ldl, px_lda, px_i1, px_i2, px_l1, px_l2, px_il, px_a1, px_r1, px_r2, px_ir, px_vir, px_g, px_v1, px_v2, px_gf, px_pf, px_ps, px_ar, px_nth, px_upd, px_zero, px_dfl, px_put_self, px_put_ne, px_sw, nI_add, pk_mul, true_and, and_true, Nat.reduceAdd, Nat.reduceLT, Nat.reduceEqDiff, List.length_cons, List.length_nil, true_or, or_true, List.set_set, ne_eq, not_false_eq_true, Fin.isValue, Fin.val_zero, Fin.val_one, Fin.val_two, reduceCtorEq, Option.map_some, List.length_set, Nat.zero_lt_succ, Option.toList_some, Option.toList_none, List.cons_append, List.nil_append, px_b_2, IA, LA, BA, ZA, QA, PT, DR, TL, MC, CD, CC, false_and, or_false, false_or, nar_b, nar_0, nar_1, nar_y])))
end CMP
