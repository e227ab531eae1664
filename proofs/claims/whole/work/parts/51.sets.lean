/-! sets of places -/
def bitP (lo hi : Int64) (p : Nat) : Bool := bitL (if p < 64 then lo else hi) (p % 64)
/-- whether a place that takes t takes event e -/
def tkn (t e : Nat) : Bool := decide (t = e) || (decide (t = 24) && decide (e < 12))
/-- all that are chosen of the first n, in one -/
def oF (c : Nat → Bool) (g : Nat → Int64) : Nat → Int64
  | 0 => lN 0
  | n + 1 => if c n then oF c g n ||| g n else oF c g n
theorem oF_eq {c c' : Nat → Bool} {g g' : Nat → Int64} : ∀ n, (∀ i, i < n → c i = c' i ∧ g i = g' i) → oF c g n = oF c' g' n
  | 0, _ => rfl
  | n + 1, h => by
    unfold oF
    rw [oF_eq n (fun i hi => h i (by omega)), (h n (by omega)).1, (h n (by omega)).2]
theorem bL_ext {x y : Int64} (h : ∀ j, j < 64 → bitL x j = bitL y j) : x = y := by
  rw [← Int64.toBitVec_inj]
  exact BitVec.eq_of_getLsbD_eq (fun i hi => h i hi)
theorem bL_and {x y : Int64} {j : Nat} : bitL (x &&& y) j = (bitL x j && bitL y j) := by
  unfold bitL
  rw [Int64.toBitVec_and, BitVec.getLsbD_and]
theorem bL_or {x y : Int64} {j : Nat} : bitL (x ||| y) j = (bitL x j || bitL y j) := by
  unfold bitL
  rw [Int64.toBitVec_or, BitVec.getLsbD_or]
theorem bL_0 {j : Nat} : bitL (lN 0) j = false := by
  unfold bitL
  show (0#64).getLsbD j = false
  simp
theorem bL_1 : ∀ p, p < 64 → ∀ j, j < 64 → bitL (lN 1 <<< ((nI p).toInt64 &&& 63)) j = decide (j = p) := by decide +kernel
theorem a_plo {r s : Int64} {n : Nat} (hn : n < 128) : r &&& pl_lo n = if bitP r s n then pl_lo n else lN 0 := by
  apply bL_ext
  intro j hj
  unfold pl_lo bitP
  rw [bL_and]
  by_cases h : n < 64
  · rw [if_pos h, if_pos h, bL_1 n h j hj, Nat.mod_eq_of_lt h]
    by_cases hjn : j = n
    · subst hjn
      rw [decide_eq_true rfl, Bool.and_true]
      cases hb : bitL r j with
      | true => rw [if_pos rfl, bL_1 j h j hj, decide_eq_true rfl]
      | false => rw [if_neg (by simp), bL_0]
    · rw [decide_eq_false hjn, Bool.and_false]
      split
      · rw [bL_1 n h j hj, decide_eq_false hjn]
      · rw [bL_0]
  · rw [if_neg h, bL_0, Bool.and_false]
    simp only [ite_self, bL_0]
theorem a_phi {r s : Int64} {n : Nat} (hn : n < 128) : s &&& pl_hi n = if bitP r s n then pl_hi n else lN 0 := by
  apply bL_ext
  intro j hj
  unfold pl_hi bitP
  rw [bL_and]
  by_cases h : n < 64
  · rw [if_pos h, bL_0, Bool.and_false]
    simp only [ite_self, bL_0]
  · rw [if_neg h, if_neg h, bL_1 (n - 64) (by omega) j hj, show n % 64 = n - 64 by omega]
    by_cases hjn : j = n - 64
    · subst hjn
      rw [decide_eq_true rfl, Bool.and_true]
      cases hb : bitL s (n - 64) with
      | true => rw [if_pos rfl, bL_1 (n - 64) (by omega) _ hj, decide_eq_true rfl]
      | false => rw [if_neg (by simp), bL_0]
    · rw [decide_eq_false hjn, Bool.and_false]
      split
      · rw [bL_1 (n - 64) (by omega) j hj, decide_eq_false hjn]
      · rw [bL_0]
theorem l_dist {x y z : Int64} : x &&& (y ||| z) = (x &&& y) ||| (x &&& z) := by
  apply bL_ext
  intro j _
  rw [bL_and, bL_or, bL_or, bL_and, bL_and]
  cases bitL x j <;> rfl
theorem or_z {x : Int64} : x ||| lN 0 = x := by
  apply bL_ext
  intro j _
  rw [bL_or, bL_0, Bool.or_false]
theorem and_z {x : Int64} : x &&& lN 0 = lN 0 := by
  apply bL_ext
  intro j _
  rw [bL_and, bL_0, Bool.and_false]
theorem and_c {x y : Int64} : x &&& y = y &&& x := by
  apply bL_ext
  intro j _
  rw [bL_and, bL_and, Bool.and_comm]
theorem m_lo {r s : Int64} {c : Nat → Bool} : ∀ n, n ≤ 128 → r &&& oF c pl_lo n = oF (fun p => bitP r s p && c p) pl_lo n
  | 0, _ => and_z
  | n + 1, h => by
    unfold oF
    rw [← m_lo n (by omega)]
    cases hc : c n with
    | false => rw [if_neg (by simp), Bool.and_false, if_neg (by simp)]
    | true =>
      rw [if_pos rfl, Bool.and_true, l_dist, a_plo (s := s) (by omega)]
      cases bitP r s n with
      | true => rfl
      | false => rw [if_neg (by simp), if_neg (by simp), or_z]
theorem m_hi {r s : Int64} {c : Nat → Bool} : ∀ n, n ≤ 128 → s &&& oF c pl_hi n = oF (fun p => bitP r s p && c p) pl_hi n
  | 0, _ => and_z
  | n + 1, h => by
    unfold oF
    rw [← m_hi n (by omega)]
    cases hc : c n with
    | false => rw [if_neg (by simp), Bool.and_false, if_neg (by simp)]
    | true =>
      rw [if_pos rfl, Bool.and_true, l_dist, a_phi (r := r) (by omega)]
      cases bitP r s n with
      | true => rfl
      | false => rw [if_neg (by simp), if_neg (by simp), or_z]
/-- the first of m sets from i on with these places -/
def fnd (lo hi : Nat → Int64) (l h : Int64) : Nat → Nat → Option Nat
  | 0, _ => none
  | m + 1, i => if lo i = l ∧ hi i = h then some i else fnd lo hi l h m (i + 1)
theorem fnd_eq {lo lo' hi hi' : Nat → Int64} {l h : Int64} : ∀ m i, (∀ j, i ≤ j → j < i + m → lo j = lo' j ∧ hi j = hi' j) → fnd lo hi l h m i = fnd lo' hi' l h m i
  | 0, _, _ => rfl
  | m + 1, i, e => by
    unfold fnd
    rw [(e i (Nat.le_refl _) (by omega)).1, (e i (Nat.le_refl _) (by omega)).2, fnd_eq m (i + 1) (fun j a b => e j (by omega) (by omega))]
theorem fnd_lt {lo hi : Nat → Int64} {l h : Int64} {k : Nat} : ∀ m i, fnd lo hi l h m i = some k → i ≤ k ∧ k < i + m
  | 0, _, q => by cases q
  | m + 1, i, q => by
    unfold fnd at q
    split at q
    · cases q; omega
    · have := fnd_lt m (i + 1) q; omega
/-- the events of a set: how many sets, their places, where they lead -/
def sE (s : Nat) (P : Nat → Int64 × Int64) : Nat → Nat → Nat → (Nat → Int64) → (Nat → Int64) → (Nat → Option Nat) → Option (Nat × (Nat → Int64) × (Nat → Int64) × (Nat → Option Nat))
  | 0, _, c, lo, hi, nx => some (c, lo, hi, nx)
  | m + 1, e, c, lo, hi, nx => if (P e).1 = lN 0 ∧ (P e).2 = lN 0 then sE s P m (e + 1) c lo hi (va_up nx (s * 24 + e) none) else match fnd lo hi (P e).1 (P e).2 (c - 1) 1 with
    | some k => sE s P m (e + 1) c lo hi (va_up nx (s * 24 + e) (some k))
    | none => if c < 100 then sE s P m (e + 1) (c + 1) (va_up lo c (P e).1) (va_up hi c (P e).2) (va_up nx (s * 24 + e) (some c)) else none
/-- what a set reaches -/
def rch (pl : Nat) (a0 : PTt) (fl fh : Nat → Int64) (s : Nat) (lo hi : Int64) : Int64 × Int64 := if s = 0 then (a0.1, a0.2.1) else (oF (bitP lo hi) fl pl, oF (bitP lo hi) fh pl)
def tgt (pl : Nat) (tk : Nat → Nat) (r : Int64 × Int64) (e : Nat) : Int64 × Int64 := (r.1 &&& oF (fun p => tkn (tk p) e) pl_lo pl, r.2 &&& oF (fun p => tkn (tk p) e) pl_hi pl)
def sS (pl : Nat) (a0 : PTt) (tk : Nat → Nat) (fl fh : Nat → Int64) : Nat → Nat → Nat → (Nat → Int64) → (Nat → Int64) → (Nat → Option Nat) → Option (Nat × (Nat → Int64) × (Nat → Int64) × (Nat → Option Nat))
  | 0, _, _, _, _, _ => none
  | K + 1, s, c, lo, hi, nx => if s < c then match sE s (tgt pl tk (rch pl a0 fl fh s (lo s) (hi s))) 24 0 c lo hi nx with
    | none => none
    | some r => sS pl a0 tk fl fh K (s + 1) r.1 r.2.1 r.2.2.1 r.2.2.2 else some (c, lo, hi, nx)
def enS2 (a0 : PTt) (lo hi : Nat → Int64) (i : Nat) : Bool := if i = 0 then a0.2.2.2.2 else decide (a0.2.2.1 &&& lo i ≠ lN 0 ∨ a0.2.2.2.1 &&& hi i ≠ lN 0)
section FLL
variable {G : px_G} {ph : List px_E} {d : Nat} {Q : Option Value → List px_E → Prop}
theorem va_fill_sL (f : Nat → Int64) (n : Nat) (v : Int64) : vp_updL (va_fill f n v) n v = va_fill f (n + 1) v := by
  funext j
  unfold vp_updL va_fill
  by_cases h : j = n
  · simp [h]
  · by_cases h2 : j < n
    · simp [h, h2, Nat.lt_succ_of_lt h2]
    · simp [h, h2, show ¬ j < n + 1 by omega]
set_option maxRecDepth 100000 in
set_option maxHeartbeats 4000000 in
theorem c_fillL {o n : Nat} {f : Nat → Int64} {v : Int64} (hn : n < 2 ^ 31) (ho : ph[o]? = some (LA n f)) (hQ : Q none (ph.set o (LA n (va_fill f n v)))) : px_Met G mJ7_fill_d0a16 d 0 0 [.ref o, .long v] ph Q := by
  refine px_start kJ7_fill_d0a16 (Nat.le_of_ble_eq_true rfl) ?_
  show px_W G _ _ _ _ _ 0 0 0 [some (.ref o), some (.long v), none, none, none] [] ph
  have key : ∀ (m i : Nat), i + m = n → px_W G mJ7_fill_d0a16 d 0 0 Q 0 0 6 [some (.ref o), some (.long v), none, some (.int (nI i)), some (.int (nI n))] [] (ph.set o (LA n (va_fill f i v))) := by
    intro m
    induction m with
    | zero =>
      intro i hi
      have : i = n := by omega
      subst this
      (repeat (first | (refine px_st rfl rfl ?_; simp only [px_wp, px_at, px_set, px_set2, px_clr, px_ldi, px_ldl, px_lda, px_i1, px_i2, px_l1, px_l2, px_il, px_a1, px_r1, px_r2, px_ir, px_vir, px_g, px_v1, px_v2, px_gf, px_pf, px_ps, px_ar, px_nth, px_upd, px_zero, px_dfl, px_put_self, px_put_ne, px_sw, nI_add, pk_mul, true_and, and_true, Nat.reduceAdd, Nat.reduceLT, Nat.reduceEqDiff, List.length_cons, List.length_nil, true_or, or_true, List.set_set, ne_eq, not_false_eq_true, Fin.isValue, Fin.val_zero, Fin.val_one, Fin.val_two, reduceCtorEq, Option.map_some, List.length_set, Nat.zero_lt_succ, Option.toList_some, Option.toList_none, List.cons_append, List.nil_append, px_b_2, IA, LA, BA, ZA, QA, PT, DR, TL, MC, CD, CC, false_and, or_false, false_or, nar_b, nar_0, nar_1, nar_y, ho]) | (refine ⟨_, rfl, by omega, ?_⟩) | (refine ⟨fun h => absurd h (nI_nlt (by omega) (by omega)), fun _ => ?_⟩) | (refine ⟨fun _ => ?_, fun h => absurd h (nI_nlt (by omega) (by omega))⟩) | (refine ⟨fun h => absurd (nI_lt (by omega) (by omega)) h, fun _ => ?_⟩) | (refine ⟨fun _ => ?_, fun h => absurd (nI_lt (by omega) (by omega)) h⟩) | (refine ⟨fun h => absurd ((nI_eq (by omega) (by omega)).mp h) (by omega), fun _ => ?_⟩) | (refine ⟨fun _ => ?_, fun h => absurd ((nI_eq (by omega) (by omega)).mp h) (by omega)⟩) | (refine ⟨fun h => absurd h (by decide), fun _ => ?_⟩) | (refine ⟨fun _ => ?_, fun h => absurd h (by decide)⟩) | (refine ⟨fun h => absurd rfl h, fun _ => ?_⟩) | (refine ⟨fun _ => ?_, fun h => absurd rfl h⟩)))
      exact px_return rfl rfl (Nat.le_refl _) (Nat.le_refl _) hQ
    | succ m ih =>
      intro i hi
      (repeat (first | (exact ih (i + 1) (by omega)) | (refine px_st rfl rfl ?_; simp only [px_wp, px_at, px_set, px_set2, px_clr, px_ldi, px_ldl, px_lda, px_i1, px_i2, px_l1, px_l2, px_il, px_a1, px_r1, px_r2, px_ir, px_vir, px_g, px_v1, px_v2, px_gf, px_pf, px_ps, px_ar, px_nth, px_upd, px_zero, px_dfl, px_put_self, px_put_ne, px_sw, nI_add, pk_mul, true_and, and_true, Nat.reduceAdd, Nat.reduceLT, Nat.reduceEqDiff, List.length_cons, List.length_nil, true_or, or_true, List.set_set, ne_eq, not_false_eq_true, Fin.isValue, Fin.val_zero, Fin.val_one, Fin.val_two, reduceCtorEq, Option.map_some, List.length_set, Nat.zero_lt_succ, Option.toList_some, Option.toList_none, List.cons_append, List.nil_append, px_b_2, IA, LA, BA, ZA, QA, PT, DR, TL, MC, CD, CC, false_and, or_false, false_or, nar_b, nar_0, nar_1, nar_y, ho, va_fill_sL]) | (refine ⟨_, rfl, by omega, ?_⟩) | (refine ⟨fun h => absurd h (nI_nlt (by omega) (by omega)), fun _ => ?_⟩) | (refine ⟨fun _ => ?_, fun h => absurd h (nI_nlt (by omega) (by omega))⟩) | (refine ⟨fun h => absurd (nI_lt (by omega) (by omega)) h, fun _ => ?_⟩) | (refine ⟨fun _ => ?_, fun h => absurd (nI_lt (by omega) (by omega)) h⟩) | (refine ⟨fun h => absurd ((nI_eq (by omega) (by omega)).mp h) (by omega), fun _ => ?_⟩) | (refine ⟨fun _ => ?_, fun h => absurd ((nI_eq (by omega) (by omega)).mp h) (by omega)⟩) | (refine ⟨fun h => absurd h (by decide), fun _ => ?_⟩) | (refine ⟨fun _ => ?_, fun h => absurd h (by decide)⟩) | (refine ⟨fun h => absurd rfl h, fun _ => ?_⟩) | (refine ⟨fun _ => ?_, fun h => absurd rfl h⟩)))
  have h0 := key n 0 (by omega)
  rw [va_fill_0, px_put_id ho] at h0
  (repeat (first | (first | exact h0 | refine ⟨by decide, ?_⟩) | (refine px_st rfl rfl ?_; simp only [px_wp, px_at, px_set, px_set2, px_clr, px_ldi, px_ldl, px_lda, px_i1, px_i2, px_l1, px_l2, px_il, px_a1, px_r1, px_r2, px_ir, px_vir, px_g, px_v1, px_v2, px_gf, px_pf, px_ps, px_ar, px_nth, px_upd, px_zero, px_dfl, px_put_self, px_put_ne, px_sw, nI_add, pk_mul, true_and, and_true, Nat.reduceAdd, Nat.reduceLT, Nat.reduceEqDiff, List.length_cons, List.length_nil, true_or, or_true, List.set_set, ne_eq, not_false_eq_true, Fin.isValue, Fin.val_zero, Fin.val_one, Fin.val_two, reduceCtorEq, Option.map_some, List.length_set, Nat.zero_lt_succ, Option.toList_some, Option.toList_none, List.cons_append, List.nil_append, px_b_2, IA, LA, BA, ZA, QA, PT, DR, TL, MC, CD, CC, false_and, or_false, false_or, nar_b, nar_0, nar_1, nar_y, ho]) | (refine ⟨_, rfl, by omega, ?_⟩) | (refine ⟨fun h => absurd h (nI_nlt (by omega) (by omega)), fun _ => ?_⟩) | (refine ⟨fun _ => ?_, fun h => absurd h (nI_nlt (by omega) (by omega))⟩) | (refine ⟨fun h => absurd (nI_lt (by omega) (by omega)) h, fun _ => ?_⟩) | (refine ⟨fun _ => ?_, fun h => absurd (nI_lt (by omega) (by omega)) h⟩) | (refine ⟨fun h => absurd ((nI_eq (by omega) (by omega)).mp h) (by omega), fun _ => ?_⟩) | (refine ⟨fun _ => ?_, fun h => absurd ((nI_eq (by omega) (by omega)).mp h) (by omega)⟩) | (refine ⟨fun h => absurd h (by decide), fun _ => ?_⟩) | (refine ⟨fun _ => ?_, fun h => absurd h (by decide)⟩) | (refine ⟨fun h => absurd rfl h, fun _ => ?_⟩) | (refine ⟨fun _ => ?_, fun h => absurd rfl h⟩)))
end FLL
