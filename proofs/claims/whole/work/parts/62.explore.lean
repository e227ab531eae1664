/-! the class looks through all shapes -/
def bN (b : Bool) : Nat := if b then 1 else 0
/-- what follows the one at a: m of them are noted -/
def eF (S : Nat → List Nat) (c : Nat) (fo : Nat → Nat) (fl : Nat → Option Nat) (a m : Nat) : Prop := (∀ k x, k < m → (S (fo a))[k]? = some x → ∃ j, j < c ∧ fl (a * 3 + k) = some j ∧ fo j = x) ∧ ∀ k, k < 3 → (m ≤ k ∨ (S (fo a)).length ≤ k) → fl (a * 3 + k) = none
def eI (S : Nat → List Nat) (bk : Nat → Bool) (i c : Nat) (fo dp mk : Nat → Nat) (fl : Nat → Option Nat) : Prop := bI S i c fo dp ∧ ∀ a, a < c → (a < i → eF S c fo fl a 3 ∧ mk a = bN (bk (fo a))) ∧ (i ≤ a → eF S c fo fl a 0 ∧ mk a = 0)
def eG (S : Nat → List Nat) (bk : Nat → Bool) (i m c : Nat) (fo dp mk : Nat → Nat) (fl : Nat → Option Nat) : Prop := bI S i c fo dp ∧ ∀ a, a < c → (a < i → eF S c fo fl a 3 ∧ mk a = bN (bk (fo a))) ∧ (a = i → eF S c fo fl a m ∧ mk a = bN (bk (fo a))) ∧ (i < a → eF S c fo fl a 0 ∧ mk a = 0)
section EXP
variable {S : Nat → List Nat} {bk : Nat → Bool} {i m c : Nat} {fo dp mk : Nat → Nat} {fl : Nat → Option Nat}
theorem eI_0 (h1 : fo 0 = 0) (h2 : dp 0 = 0) (h3 : mk 0 = 0) (h4 : ∀ k, k < 3 → fl k = none) : eI S bk 0 1 fo dp mk fl := by
  refine ⟨bI_0 fo dp h1 h2, fun a ha => ⟨fun h => absurd h (by omega), fun _ => ?_⟩⟩
  have : a = 0 := by omega
  subst this
  exact ⟨⟨fun k x hk => absurd hk (by omega), fun k hk _ => by rw [Nat.zero_mul, Nat.zero_add]; exact h4 k hk⟩, h3⟩
theorem eI_mark (h : eI S bk i c fo dp mk fl) (hi : i < c) {v : Nat} (hv : v = bN (bk (fo i))) : eG S bk i 0 c fo dp (va_up mk i v) fl := by
  refine ⟨h.1, fun a ha => ⟨fun q => ?_, fun q => ?_, fun q => ?_⟩⟩
  · rw [va_up_n (by omega)]; exact (h.2 a ha).1 q
  · subst q
    rw [va_up_s]
    exact ⟨((h.2 a ha).2 (Nat.le_refl _)).1, hv⟩
  · rw [va_up_n (by omega)]; exact (h.2 a ha).2 (by omega)
theorem eF_fl {a n : Nat} {fl' : Nat → Option Nat} (h : eF S c fo fl a n) (he : ∀ k, k < 3 → fl' (a * 3 + k) = fl (a * 3 + k)) (hl : (S (fo a)).length ≤ 3) : eF S c fo fl' a n := by
  refine ⟨fun k x hk hx => ?_, fun k hk q => by rw [he k hk]; exact h.2 k hk q⟩
  have : k < (S (fo a)).length := (List.getElem?_eq_some_iff.mp hx).1
  rw [he k (by omega)]
  exact h.1 k x hk hx
theorem eG_old {x j : Nat} (hS : ∀ n, (S n).length ≤ 3) (h : eG S bk i m c fo dp mk fl) (hi : i < c) (hx : (S (fo i))[m]? = some x) (hj : j < c) (e : fo j = x) : eG S bk i (m + 1) c fo dp mk (va_up fl (i * 3 + m) (some j)) := by
  have hm : m < (S (fo i)).length := (List.getElem?_eq_some_iff.mp hx).1
  have h3 := hS (fo i)
  refine ⟨h.1, fun a ha => ⟨fun q => ?_, fun q => ?_, fun q => ?_⟩⟩
  · obtain ⟨q1, q2⟩ := (h.2 a ha).1 q
    exact ⟨eF_fl q1 (fun k hk => va_up_n (by omega)) (hS _), q2⟩
  · subst q
    obtain ⟨⟨q1, q2⟩, q3⟩ := (h.2 a ha).2.1 rfl
    refine ⟨⟨fun k y hk hy => ?_, fun k hk q => ?_⟩, q3⟩
    · by_cases hkm : k = m
      · subst hkm
        rw [hx] at hy
        cases hy
        exact ⟨j, hj, va_up_s, e⟩
      · rw [va_up_n (by omega)]
        exact q1 k y (by omega) hy
    · rw [va_up_n (by omega)]
      exact q2 k hk (by omega)
  · obtain ⟨q1, q2⟩ := (h.2 a ha).2.2 q
    exact ⟨eF_fl q1 (fun k hk => va_up_n (by omega)) (hS _), q2⟩
theorem eF_c {a n c' : Nat} {fo' : Nat → Nat} {fl' : Nat → Option Nat} (h : eF S c fo fl a n) (ha : fo' a = fo a) (hc : c ≤ c') (hf : ∀ b, b < c → fo' b = fo b) (he : ∀ k, k < 3 → fl' (a * 3 + k) = fl (a * 3 + k)) (hl : (S (fo a)).length ≤ 3) : eF S c' fo' fl' a n := by
  refine ⟨fun k x hk hx => ?_, fun k hk q => by rw [ha] at q; rw [he k hk]; exact h.2 k hk q⟩
  rw [ha] at hx
  have : k < (S (fo a)).length := (List.getElem?_eq_some_iff.mp hx).1
  rw [he k (by omega)]
  obtain ⟨j, q1, q2, q3⟩ := h.1 k x hk hx
  exact ⟨j, by omega, q2, by rw [hf j q1]; exact q3⟩
theorem eG_new {x : Nat} (hS : ∀ n, (S n).length ≤ 3) (h : eG S bk i m c fo dp mk fl) (hi : i < c) (hx : (S (fo i))[m]? = some x) (hn : ∀ k, k < c → ¬ fo k = x) : eG S bk i (m + 1) (c + 1) (va_up fo c x) (va_up dp c (dp i + 1)) (va_up mk c 0) (va_up (flN fl c) (i * 3 + m) (some c)) := by
  have hm : m < (S (fo i)).length := (List.getElem?_eq_some_iff.mp hx).1
  have h3 := hS (fo i)
  have hf : ∀ b, b < c → va_up fo c x b = fo b := fun b hb => va_up_n (by omega)
  have hfl : ∀ a k, a < c → ¬ a = i → k < 3 → va_up (flN fl c) (i * 3 + m) (some c) (a * 3 + k) = fl (a * 3 + k) := fun a k ha hai hk => by
    rw [va_up_n (by omega)]
    unfold flN
    rw [if_neg (by omega)]
  refine ⟨bI_add h.1 hi (List.mem_of_getElem? hx) hn, fun a ha => ⟨fun q => ?_, fun q => ?_, fun q => ?_⟩⟩
  · obtain ⟨q1, q2⟩ := (h.2 a (by omega)).1 q
    rw [va_up_n (show ¬ a = c by omega), hf a (by omega)]
    exact ⟨eF_c q1 (hf a (by omega)) (by omega) hf (fun k hk => hfl a k (by omega) (by omega) hk) (hS _), q2⟩
  · subst q
    obtain ⟨⟨q1, q2⟩, q3⟩ := (h.2 a hi).2.1 rfl
    rw [va_up_n (show ¬ a = c by omega), hf a hi]
    refine ⟨⟨fun k y hk hy => ?_, fun k hk q => ?_⟩, q3⟩
    · rw [hf a hi] at hy
      by_cases hkm : k = m
      · subst hkm
        rw [hx] at hy
        cases hy
        exact ⟨c, by omega, va_up_s, va_up_s⟩
      · rw [va_up_n (by omega)]
        unfold flN
        rw [if_neg (by omega)]
        obtain ⟨j, r1, r2, r3⟩ := q1 k y (by omega) hy
        exact ⟨j, by omega, r2, by rw [hf j r1]; exact r3⟩
    · rw [hf a hi] at q
      rw [va_up_n (by omega)]
      unfold flN
      rw [if_neg (by omega)]
      exact q2 k hk (by omega)
  · by_cases hac : a = c
    · subst hac
      rw [va_up_s]
      refine ⟨⟨fun k y hk => absurd hk (by omega), fun k hk _ => ?_⟩, rfl⟩
      rw [va_up_n (by omega)]
      unfold flN
      rw [if_pos ⟨by omega, by omega⟩]
    · obtain ⟨q1, q2⟩ := (h.2 a (by omega)).2.2 q
      rw [va_up_n hac]
      exact ⟨eF_c q1 (hf a (by omega)) (by omega) hf (fun k hk => hfl a k (by omega) (by omega) hk) (hS _), q2⟩
theorem eG_next (hS : ∀ n, (S n).length ≤ 3) (h : eG S bk i m c fo dp mk fl) (hi : i < c) (hm : m = (S (fo i)).length) : eI S bk (i + 1) c fo dp mk fl := by
  obtain ⟨⟨q1, q2⟩, q3⟩ := (h.2 i hi).2.1 rfl
  refine ⟨bI_next h.1 hi (fun x hx => ?_), fun a ha => ⟨fun q => ?_, fun q => (h.2 a ha).2.2 (by omega)⟩⟩
  · obtain ⟨k, hk⟩ := List.mem_iff_getElem?.mp hx
    have hkl := (List.getElem?_eq_some_iff.mp hk).1
    obtain ⟨j, r1, -, r3⟩ := q1 k x (by omega) hk
    exact ⟨j, r1, r3⟩
  · by_cases hai : a = i
    · subst hai
      refine ⟨⟨fun k x _ hx => ?_, fun k hk r => q2 k hk (by omega)⟩, q3⟩
      have hkl := (List.getElem?_eq_some_iff.mp hx).1
      exact q1 k x (by omega) hx
    · exact (h.2 a ha).1 (by omega)
/-- there are more than can be held -/
def gX (S : Nat → List Nat) : Prop := ∃ sh : Nat → Nat, (∀ a, a < 3001 → ∀ b, b < 3001 → sh a = sh b → a = b) ∧ ∀ a, a < 3001 → ∃ k, gR S k (sh a)
theorem bI_X {x : Nat} (h : bI S i 3000 fo dp) (hi : i < 3000) (hx : x ∈ S (fo i)) (hn : ∀ k, k < 3000 → ¬ fo k = x) : gX S := by
  obtain ⟨-, q1, q2, -⟩ := bI_add h hi hx hn
  exact ⟨_, q1, fun a ha => ⟨_, (q2 a ha).1⟩⟩
end EXP
section EXQ
variable {G : px_G} {ph : List px_E} {d : Nat} {Q : Option Value → List px_E → Prop} {os c : Nat} {fo dp sl mk : Nat → Nat} {fl : Nat → Option Nat} {x y q i w : Nat}
/-- a follower is noted in the cells -/
theorem sX_fl {j : Nat} (h : sX ph os c fo dp sl mk fl) (hi : i < c) (hw : w < 3) {fw : Nat → Int32} (h5 : ph[os + 5]? = some (IA 9000 fw)) : sX (ph.set (os + 5) (IA 9000 (upd fw (i * 3 + w) (nI j)))) os c fo dp sl mk (va_up fl (i * 3 + w) (some j)) := by
  obtain ⟨h0, s, f, dd, m, fw', h1, h2, h3, h4, h5', ⟨g, h6⟩, v1, v2⟩ := h
  rw [h5] at h5'
  cases h5'
  refine ⟨(px_put_ne (by omega)).trans h0, s, f, dd, m, _, (px_put_ne (by omega)).trans h1, (px_put_ne (by omega)).trans h2, (px_put_ne (by omega)).trans h3, (px_put_ne (by omega)).trans h4, px_put_self.trans (by rw [h5]; rfl), ⟨g, (px_put_ne (by omega)).trans h6⟩, v1, fun a ha => ?_⟩
  obtain ⟨w1, w2, w3, w4⟩ := v2 a ha
  refine ⟨w1, w2, w3, fun k hk => ?_⟩
  by_cases e : a * 3 + k = i * 3 + w
  · rw [e, pk_us, va_up_s]; rfl
  · unfold upd
    rw [if_neg e, va_up_n e]
    exact w4 k hk
set_option maxRecDepth 100000 in
set_option maxHeartbeats 4000000 in
theorem c_S_follow (h : sX ph os c fo dp sl mk fl) (hH : HT 4096 hsC c fo sl) (hc : c ≤ 3000) (hfo : ∀ i, i < c → fo i < 2 ^ 31) (hx : x < 2 ^ 31) (hi : i < c) (hw : w < 3) (hQ1 : ∀ k, k < c → fo k = x → ∀ ph', fr (FS os) ph ph' → sX ph' os c fo dp sl mk (va_up fl (i * 3 + w) (some k)) → Q (some (.int (nI 1))) ph') (hQ2 : (∀ k, k < c → ¬ fo k = x) → c = 3000 → ∀ ph', fr (FS os) ph ph' → sY ph' os → Q (some (.int (nI 0))) ph') (hQ3 : (∀ k, k < c → ¬ fo k = x) → c < 3000 → ∀ sl' ph', fr (FS os) ph ph' → HT 4096 hsC (c + 1) (va_up fo c x) sl' → sX ph' os (c + 1) (va_up fo c x) (va_up dp c (dp i + 1)) sl' (va_up mk c 0) (va_up (flN fl c) (i * 3 + w) (some c)) → Q (some (.int (nI 1))) ph') : px_Met G mX9_follow (d + 4) 0 0 [.ref os, .int (nI i), .int (nI w), .int (nI x)] ph Q := by
  have hX := h
  obtain ⟨h0, s, f, dd, m, fw, h1, h2, h3, h4, h5, h6, v1, v2⟩ := h
  obtain ⟨-, w2, -⟩ := v2 i hi
  have n5 : ¬ os + 5 = os := by omega
  refine px_start kX9_follow (Nat.le_of_ble_eq_true rfl) ?_
  show px_W G _ _ _ _ _ 0 0 0 [some (.ref os), some (.int (nI i)), some (.int (nI w)), some (.int (nI x)), none] [] ph
  (repeat (first | (refine px_st rfl rfl ?_; simp only [px_wp, px_at, px_set, px_set2, px_clr, px_ldi, px_ldl, px_lda, px_i1, px_i2, px_l1, px_l2, px_il, px_a1, px_r1, px_r2, px_ir, px_vir, px_g, px_v1, px_v2, px_gf, px_pf, px_ps, px_ar, px_nth, px_upd, px_zero, px_dfl, px_put_self, px_put_ne, px_sw, nI_add, pk_mul, true_and, and_true, Nat.reduceAdd, Nat.reduceLT, Nat.reduceEqDiff, List.length_cons, List.length_nil, true_or, or_true, List.set_set, ne_eq, not_false_eq_true, Fin.isValue, Fin.val_zero, Fin.val_one, Fin.val_two, reduceCtorEq, Option.map_some, List.length_set, Nat.zero_lt_succ, Option.toList_some, Option.toList_none, List.cons_append, List.nil_append, px_b_2, IA, LA, BA, ZA, QA, PT, DR, TL, MC, CD, CC, false_and, or_false, false_or, nar_b, nar_0, nar_1, nar_y, h0, SP, h3, w2]) | (refine ⟨_, rfl, by omega, ?_⟩) | (refine ⟨fun h => absurd h (nI_nlt (by omega) (by omega)), fun _ => ?_⟩) | (refine ⟨fun _ => ?_, fun h => absurd h (nI_nlt (by omega) (by omega))⟩) | (refine ⟨fun h => absurd (nI_lt (by omega) (by omega)) h, fun _ => ?_⟩) | (refine ⟨fun _ => ?_, fun h => absurd (nI_lt (by omega) (by omega)) h⟩) | (refine ⟨fun h => absurd ((nI_eq (by omega) (by omega)).mp h) (by omega), fun _ => ?_⟩) | (refine ⟨fun _ => ?_, fun h => absurd ((nI_eq (by omega) (by omega)).mp h) (by omega)⟩) | (refine ⟨fun h => absurd h (by decide), fun _ => ?_⟩) | (refine ⟨fun _ => ?_, fun h => absurd h (by decide)⟩) | (refine ⟨fun h => absurd rfl h, fun _ => ?_⟩) | (refine ⟨fun _ => ?_, fun h => absurd rfl h⟩)))
  refine px_cV rfl rfl kX9_indexOf rfl (c_S_indexOf (d := d) (y := dp i + 1) hX hH hc hfo hx (fun k hk e => ?_) (fun hn hc3 => ?_) (fun hn hc3 sl' ph' hf' hH' hX' => ?_)) (Nat.le_refl _) h0 rfl rfl rfl (Nat.le_of_ble_eq_true rfl) (Nat.zero_le _) (Nat.zero_le _)
  · have hq := hQ1 k hk e _ (fs_set fr_id (by omega)) (sX_fl hX hi hw h5)
    have hne : ¬ nI k = -3 := nI_m3 (by omega)
    (repeat (first | (refine ⟨fun q => absurd q hne, fun _ => ?_⟩) | (refine px_st rfl rfl ?_; simp only [px_wp, px_at, px_set, px_set2, px_clr, px_ldi, px_ldl, px_lda, px_i1, px_i2, px_l1, px_l2, px_il, px_a1, px_r1, px_r2, px_ir, px_vir, px_g, px_v1, px_v2, px_gf, px_pf, px_ps, px_ar, px_nth, px_upd, px_zero, px_dfl, px_put_self, px_put_ne, px_sw, nI_add, pk_mul, true_and, and_true, Nat.reduceAdd, Nat.reduceLT, Nat.reduceEqDiff, List.length_cons, List.length_nil, true_or, or_true, List.set_set, ne_eq, not_false_eq_true, Fin.isValue, Fin.val_zero, Fin.val_one, Fin.val_two, reduceCtorEq, Option.map_some, List.length_set, Nat.zero_lt_succ, Option.toList_some, Option.toList_none, List.cons_append, List.nil_append, px_b_2, IA, LA, BA, ZA, QA, PT, DR, TL, MC, CD, CC, false_and, or_false, false_or, nar_b, nar_0, nar_1, nar_y, h0, SP, h5, n5]) | (refine ⟨_, rfl, by omega, ?_⟩) | (refine ⟨fun h => absurd h (nI_nlt (by omega) (by omega)), fun _ => ?_⟩) | (refine ⟨fun _ => ?_, fun h => absurd h (nI_nlt (by omega) (by omega))⟩) | (refine ⟨fun h => absurd (nI_lt (by omega) (by omega)) h, fun _ => ?_⟩) | (refine ⟨fun _ => ?_, fun h => absurd (nI_lt (by omega) (by omega)) h⟩) | (refine ⟨fun h => absurd ((nI_eq (by omega) (by omega)).mp h) (by omega), fun _ => ?_⟩) | (refine ⟨fun _ => ?_, fun h => absurd ((nI_eq (by omega) (by omega)).mp h) (by omega)⟩) | (refine ⟨fun h => absurd h (by decide), fun _ => ?_⟩) | (refine ⟨fun _ => ?_, fun h => absurd h (by decide)⟩) | (refine ⟨fun h => absurd rfl h, fun _ => ?_⟩) | (refine ⟨fun _ => ?_, fun h => absurd rfl h⟩)))
    exact px_ireturn rfl (Or.inr ⟨rfl, Or.inr rfl⟩) (Nat.le_refl _) (Nat.le_refl _) hq
  · have hq := hQ2 hn hc3 (ph.set (os + 5) (IA 9000 (upd fw (i * 3 + w) (-3)))) (fs_set fr_id (by omega)) (by
      obtain ⟨g, h6⟩ := h6
      exact ⟨⟨c, (px_put_ne (by omega)).trans h0⟩, ⟨_, (px_put_ne (by omega)).trans h1⟩, ⟨_, (px_put_ne (by omega)).trans h2⟩, ⟨_, (px_put_ne (by omega)).trans h3⟩, ⟨_, (px_put_ne (by omega)).trans h4⟩, ⟨_, px_put_self.trans (by rw [h5]; rfl)⟩, ⟨g, (px_put_ne (by omega)).trans h6⟩⟩)
    (repeat (first | (refine px_st rfl rfl ?_; simp only [px_wp, px_at, px_set, px_set2, px_clr, px_ldi, px_ldl, px_lda, px_i1, px_i2, px_l1, px_l2, px_il, px_a1, px_r1, px_r2, px_ir, px_vir, px_g, px_v1, px_v2, px_gf, px_pf, px_ps, px_ar, px_nth, px_upd, px_zero, px_dfl, px_put_self, px_put_ne, px_sw, nI_add, pk_mul, true_and, and_true, Nat.reduceAdd, Nat.reduceLT, Nat.reduceEqDiff, List.length_cons, List.length_nil, true_or, or_true, List.set_set, ne_eq, not_false_eq_true, Fin.isValue, Fin.val_zero, Fin.val_one, Fin.val_two, reduceCtorEq, Option.map_some, List.length_set, Nat.zero_lt_succ, Option.toList_some, Option.toList_none, List.cons_append, List.nil_append, px_b_2, IA, LA, BA, ZA, QA, PT, DR, TL, MC, CD, CC, false_and, or_false, false_or, nar_b, nar_0, nar_1, nar_y, h0, SP, h5, n5]) | (refine ⟨_, rfl, by omega, ?_⟩) | (refine ⟨fun h => absurd h (nI_nlt (by omega) (by omega)), fun _ => ?_⟩) | (refine ⟨fun _ => ?_, fun h => absurd h (nI_nlt (by omega) (by omega))⟩) | (refine ⟨fun h => absurd (nI_lt (by omega) (by omega)) h, fun _ => ?_⟩) | (refine ⟨fun _ => ?_, fun h => absurd (nI_lt (by omega) (by omega)) h⟩) | (refine ⟨fun h => absurd ((nI_eq (by omega) (by omega)).mp h) (by omega), fun _ => ?_⟩) | (refine ⟨fun _ => ?_, fun h => absurd ((nI_eq (by omega) (by omega)).mp h) (by omega)⟩) | (refine ⟨fun h => absurd h (by decide), fun _ => ?_⟩) | (refine ⟨fun _ => ?_, fun h => absurd h (by decide)⟩) | (refine ⟨fun h => absurd rfl h, fun _ => ?_⟩) | (refine ⟨fun _ => ?_, fun h => absurd rfl h⟩)))
    exact px_ireturn rfl (Or.inr ⟨rfl, Or.inl rfl⟩) (Nat.le_refl _) (Nat.le_refl _) hq
  · have hX0 := hX'
    obtain ⟨k0, s', f', dd', m', fw', k1, k2, k3, k4, k5, k6, -⟩ := hX'
    have hq := hQ3 hn hc3 sl' _ (fs_set hf' (by omega)) hH' (sX_fl hX0 (show i < c + 1 by omega) hw k5)
    have hne : ¬ nI c = -3 := nI_m3 (by omega)
    (repeat (first | (refine ⟨fun q => absurd q hne, fun _ => ?_⟩) | (refine px_st rfl rfl ?_; simp only [px_wp, px_at, px_set, px_set2, px_clr, px_ldi, px_ldl, px_lda, px_i1, px_i2, px_l1, px_l2, px_il, px_a1, px_r1, px_r2, px_ir, px_vir, px_g, px_v1, px_v2, px_gf, px_pf, px_ps, px_ar, px_nth, px_upd, px_zero, px_dfl, px_put_self, px_put_ne, px_sw, nI_add, pk_mul, true_and, and_true, Nat.reduceAdd, Nat.reduceLT, Nat.reduceEqDiff, List.length_cons, List.length_nil, true_or, or_true, List.set_set, ne_eq, not_false_eq_true, Fin.isValue, Fin.val_zero, Fin.val_one, Fin.val_two, reduceCtorEq, Option.map_some, List.length_set, Nat.zero_lt_succ, Option.toList_some, Option.toList_none, List.cons_append, List.nil_append, px_b_2, IA, LA, BA, ZA, QA, PT, DR, TL, MC, CD, CC, false_and, or_false, false_or, nar_b, nar_0, nar_1, nar_y, k0, SP, k5, n5]) | (refine ⟨_, rfl, by omega, ?_⟩) | (refine ⟨fun h => absurd h (nI_nlt (by omega) (by omega)), fun _ => ?_⟩) | (refine ⟨fun _ => ?_, fun h => absurd h (nI_nlt (by omega) (by omega))⟩) | (refine ⟨fun h => absurd (nI_lt (by omega) (by omega)) h, fun _ => ?_⟩) | (refine ⟨fun _ => ?_, fun h => absurd (nI_lt (by omega) (by omega)) h⟩) | (refine ⟨fun h => absurd ((nI_eq (by omega) (by omega)).mp h) (by omega), fun _ => ?_⟩) | (refine ⟨fun _ => ?_, fun h => absurd ((nI_eq (by omega) (by omega)).mp h) (by omega)⟩) | (refine ⟨fun h => absurd h (by decide), fun _ => ?_⟩) | (refine ⟨fun _ => ?_, fun h => absurd h (by decide)⟩) | (refine ⟨fun h => absurd rfl h, fun _ => ?_⟩) | (refine ⟨fun _ => ?_, fun h => absurd rfl h⟩)))
    exact px_ireturn rfl (Or.inr ⟨rfl, Or.inr rfl⟩) (Nat.le_refl _) (Nat.le_refl _) hq
set_option maxRecDepth 100000 in
set_option maxHeartbeats 4000000 in
theorem c_S_begin (h : sY ph os) (hQ : ∀ sl mk fl ph', fr (FS os) ph ph' → HT 4096 hsC 1 (fun _ => 0) sl → mk 0 = 0 → (∀ k, k < 3 → fl k = none) → sX ph' os 1 (fun _ => 0) (fun _ => 0) sl mk fl → Q none ph') : px_Met G mX9_begin (d + 4) 0 0 [.ref os] ph Q := by
  obtain ⟨⟨c0, h0⟩, ⟨s, h1⟩, ⟨f, h2⟩, ⟨dd, h3⟩, ⟨m, h4⟩, ⟨fw, h5⟩, ⟨g, h6⟩⟩ := h
  have n1 : ¬ os + 1 = os := by omega
  refine px_start kX9_begin (Nat.le_of_ble_eq_true rfl) ?_
  show px_W G _ _ _ _ _ 0 0 0 [some (.ref os)] [] ph
  (repeat (first | (refine px_st rfl rfl ?_; simp only [px_wp, px_at, px_set, px_set2, px_clr, px_ldi, px_ldl, px_lda, px_i1, px_i2, px_l1, px_l2, px_il, px_a1, px_r1, px_r2, px_ir, px_vir, px_g, px_v1, px_v2, px_gf, px_pf, px_ps, px_ar, px_nth, px_upd, px_zero, px_dfl, px_put_self, px_put_ne, px_sw, nI_add, pk_mul, true_and, and_true, Nat.reduceAdd, Nat.reduceLT, Nat.reduceEqDiff, List.length_cons, List.length_nil, true_or, or_true, List.set_set, ne_eq, not_false_eq_true, Fin.isValue, Fin.val_zero, Fin.val_one, Fin.val_two, reduceCtorEq, Option.map_some, List.length_set, Nat.zero_lt_succ, Option.toList_some, Option.toList_none, List.cons_append, List.nil_append, px_b_2, IA, LA, BA, ZA, QA, PT, DR, TL, MC, CD, CC, false_and, or_false, false_or, nar_b, nar_0, nar_1, nar_y, h0, SP]) | (refine ⟨_, rfl, by omega, ?_⟩) | (refine ⟨fun h => absurd h (nI_nlt (by omega) (by omega)), fun _ => ?_⟩) | (refine ⟨fun _ => ?_, fun h => absurd h (nI_nlt (by omega) (by omega))⟩) | (refine ⟨fun h => absurd (nI_lt (by omega) (by omega)) h, fun _ => ?_⟩) | (refine ⟨fun _ => ?_, fun h => absurd (nI_lt (by omega) (by omega)) h⟩) | (refine ⟨fun h => absurd ((nI_eq (by omega) (by omega)).mp h) (by omega), fun _ => ?_⟩) | (refine ⟨fun _ => ?_, fun h => absurd ((nI_eq (by omega) (by omega)).mp h) (by omega)⟩) | (refine ⟨fun h => absurd h (by decide), fun _ => ?_⟩) | (refine ⟨fun _ => ?_, fun h => absurd h (by decide)⟩) | (refine ⟨fun h => absurd rfl h, fun _ => ?_⟩) | (refine ⟨fun _ => ?_, fun h => absurd rfl h⟩)))
  refine px_cS rfl rfl kJ7_fill_53178 rfl (c_fill (d := d + 3) (by omega) h1 ?_) (Nat.le_refl _) rfl rfl (Nat.le_of_ble_eq_true rfl) (Nat.zero_le _) (Nat.zero_le _)
  have j0 : (ph.set (os + 1) (IA 4096 (va_fill s 4096 (nI 0))))[os]? = some (SP os c0) := (px_put_ne (by omega)).trans h0
  (repeat (first | (refine px_st rfl rfl ?_; simp only [px_wp, px_at, px_set, px_set2, px_clr, px_ldi, px_ldl, px_lda, px_i1, px_i2, px_l1, px_l2, px_il, px_a1, px_r1, px_r2, px_ir, px_vir, px_g, px_v1, px_v2, px_gf, px_pf, px_ps, px_ar, px_nth, px_upd, px_zero, px_dfl, px_put_self, px_put_ne, px_sw, nI_add, pk_mul, true_and, and_true, Nat.reduceAdd, Nat.reduceLT, Nat.reduceEqDiff, List.length_cons, List.length_nil, true_or, or_true, List.set_set, ne_eq, not_false_eq_true, Fin.isValue, Fin.val_zero, Fin.val_one, Fin.val_two, reduceCtorEq, Option.map_some, List.length_set, Nat.zero_lt_succ, Option.toList_some, Option.toList_none, List.cons_append, List.nil_append, px_b_2, IA, LA, BA, ZA, QA, PT, DR, TL, MC, CD, CC, false_and, or_false, false_or, nar_b, nar_0, nar_1, nar_y, j0, SP]) | (refine ⟨_, rfl, by omega, ?_⟩) | (refine ⟨fun h => absurd h (nI_nlt (by omega) (by omega)), fun _ => ?_⟩) | (refine ⟨fun _ => ?_, fun h => absurd h (nI_nlt (by omega) (by omega))⟩) | (refine ⟨fun h => absurd (nI_lt (by omega) (by omega)) h, fun _ => ?_⟩) | (refine ⟨fun _ => ?_, fun h => absurd (nI_lt (by omega) (by omega)) h⟩) | (refine ⟨fun h => absurd ((nI_eq (by omega) (by omega)).mp h) (by omega), fun _ => ?_⟩) | (refine ⟨fun _ => ?_, fun h => absurd ((nI_eq (by omega) (by omega)).mp h) (by omega)⟩) | (refine ⟨fun h => absurd h (by decide), fun _ => ?_⟩) | (refine ⟨fun _ => ?_, fun h => absurd h (by decide)⟩) | (refine ⟨fun h => absurd rfl h, fun _ => ?_⟩) | (refine ⟨fun _ => ?_, fun h => absurd rfl h⟩)))
  have hX : sX ((ph.set (os + 1) (IA 4096 (va_fill s 4096 (nI 0)))).set os (SP os 0)) os 0 (fun _ => 0) (fun _ => 0) (fun _ => 0) (fun _ => 0) (fun _ => none) := by
    refine ⟨px_put_self.trans (by rw [j0]; rfl), va_fill s 4096 (nI 0), f, dd, m, fw, ?_, ?_, ?_, ?_, ?_, ⟨g, ?_⟩, fun q hq => ?_, fun i hi => absurd hi (by omega)⟩
    · rw [px_put_ne (by omega), px_put_self, h1]; rfl
    · rw [px_put_ne (by omega), px_put_ne (by omega)]; exact h2
    · rw [px_put_ne (by omega), px_put_ne (by omega)]; exact h3
    · rw [px_put_ne (by omega), px_put_ne (by omega)]; exact h4
    · rw [px_put_ne (by omega), px_put_ne (by omega)]; exact h5
    · rw [px_put_ne (by omega), px_put_ne (by omega)]; exact h6
    · unfold va_fill; rw [if_pos hq]
  refine px_cV rfl rfl kX9_indexOf rfl (c_S_indexOf (d := d) (x := 0) (y := 0) hX (HT_0 (fun q hq => rfl)) (by omega) (fun i hi => absurd hi (by omega)) (by omega) (fun k hk => absurd hk (by omega)) (fun _ q => absurd q (by omega)) (fun hn hc3 sl' ph' hf' hH' hX' => ?_)) (Nat.le_refl _) hX.1 rfl rfl rfl (Nat.le_of_ble_eq_true rfl) (Nat.zero_le _) (Nat.zero_le _)
  have e0 : va_up (fun _ => 0) 0 0 = (fun _ => 0 : Nat → Nat) := by
    funext j
    unfold va_up
    split <;> rfl
  rw [e0] at hH' hX'
  (repeat (first | (refine px_st rfl rfl ?_; simp only [px_wp, px_at, px_set, px_set2, px_clr, px_ldi, px_ldl, px_lda, px_i1, px_i2, px_l1, px_l2, px_il, px_a1, px_r1, px_r2, px_ir, px_vir, px_g, px_v1, px_v2, px_gf, px_pf, px_ps, px_ar, px_nth, px_upd, px_zero, px_dfl, px_put_self, px_put_ne, px_sw, nI_add, pk_mul, true_and, and_true, Nat.reduceAdd, Nat.reduceLT, Nat.reduceEqDiff, List.length_cons, List.length_nil, true_or, or_true, List.set_set, ne_eq, not_false_eq_true, Fin.isValue, Fin.val_zero, Fin.val_one, Fin.val_two, reduceCtorEq, Option.map_some, List.length_set, Nat.zero_lt_succ, Option.toList_some, Option.toList_none, List.cons_append, List.nil_append, px_b_2, IA, LA, BA, ZA, QA, PT, DR, TL, MC, CD, CC, false_and, or_false, false_or, nar_b, nar_0, nar_1, nar_y]) | (refine ⟨_, rfl, by omega, ?_⟩) | (refine ⟨fun h => absurd h (nI_nlt (by omega) (by omega)), fun _ => ?_⟩) | (refine ⟨fun _ => ?_, fun h => absurd h (nI_nlt (by omega) (by omega))⟩) | (refine ⟨fun h => absurd (nI_lt (by omega) (by omega)) h, fun _ => ?_⟩) | (refine ⟨fun _ => ?_, fun h => absurd (nI_lt (by omega) (by omega)) h⟩) | (refine ⟨fun h => absurd ((nI_eq (by omega) (by omega)).mp h) (by omega), fun _ => ?_⟩) | (refine ⟨fun _ => ?_, fun h => absurd ((nI_eq (by omega) (by omega)).mp h) (by omega)⟩) | (refine ⟨fun h => absurd h (by decide), fun _ => ?_⟩) | (refine ⟨fun _ => ?_, fun h => absurd h (by decide)⟩) | (refine ⟨fun h => absurd rfl h, fun _ => ?_⟩) | (refine ⟨fun _ => ?_, fun h => absurd rfl h⟩)))
  refine px_return rfl rfl (Nat.le_refl _) (Nat.le_refl _) (hQ sl' _ _ ph' (fr_tr (fs_set (fs_set fr_id (by omega)) (by omega)) hf') hH' ?_ (fun k hk => ?_) hX')
  · rfl
  · unfold flN
    split <;> rfl
set_option maxRecDepth 100000 in
set_option maxHeartbeats 4000000 in
theorem c_S_markBreak (h : sX ph os c fo dp sl mk fl) (hc : c ≤ 3000) (hi : i < c) (h0 : mk i = 0) (hQ : ∀ ph', fr (FS os) ph ph' → sX ph' os c fo dp sl (va_up mk i 1) fl → Q none ph') : px_Met G mX9_markBreak d 0 0 [.ref os, .int (nI i)] ph Q := by
  obtain ⟨k0, s, f, dd, m, fw, h1, h2, h3, h4, h5, ⟨g, h6⟩, v1, v2⟩ := h
  obtain ⟨-, -, w3, -⟩ := v2 i hi
  rw [h0] at w3
  have e1 : nI 0 ||| nI 1 = nI 1 := by decide
  refine px_start kX9_markBreak (Nat.le_of_ble_eq_true rfl) ?_
  show px_W G _ _ _ _ _ 0 0 0 [some (.ref os), some (.int (nI i))] [] ph
  (repeat (first | (refine px_st rfl rfl ?_; simp only [px_wp, px_at, px_set, px_set2, px_clr, px_ldi, px_ldl, px_lda, px_i1, px_i2, px_l1, px_l2, px_il, px_a1, px_r1, px_r2, px_ir, px_vir, px_g, px_v1, px_v2, px_gf, px_pf, px_ps, px_ar, px_nth, px_upd, px_zero, px_dfl, px_put_self, px_put_ne, px_sw, nI_add, pk_mul, true_and, and_true, Nat.reduceAdd, Nat.reduceLT, Nat.reduceEqDiff, List.length_cons, List.length_nil, true_or, or_true, List.set_set, ne_eq, not_false_eq_true, Fin.isValue, Fin.val_zero, Fin.val_one, Fin.val_two, reduceCtorEq, Option.map_some, List.length_set, Nat.zero_lt_succ, Option.toList_some, Option.toList_none, List.cons_append, List.nil_append, px_b_2, IA, LA, BA, ZA, QA, PT, DR, TL, MC, CD, CC, false_and, or_false, false_or, nar_b, nar_0, nar_1, nar_y, k0, SP, h4, w3, e1]) | (refine ⟨_, rfl, by omega, ?_⟩) | (refine ⟨fun h => absurd h (nI_nlt (by omega) (by omega)), fun _ => ?_⟩) | (refine ⟨fun _ => ?_, fun h => absurd h (nI_nlt (by omega) (by omega))⟩) | (refine ⟨fun h => absurd (nI_lt (by omega) (by omega)) h, fun _ => ?_⟩) | (refine ⟨fun _ => ?_, fun h => absurd (nI_lt (by omega) (by omega)) h⟩) | (refine ⟨fun h => absurd ((nI_eq (by omega) (by omega)).mp h) (by omega), fun _ => ?_⟩) | (refine ⟨fun _ => ?_, fun h => absurd ((nI_eq (by omega) (by omega)).mp h) (by omega)⟩) | (refine ⟨fun h => absurd h (by decide), fun _ => ?_⟩) | (refine ⟨fun _ => ?_, fun h => absurd h (by decide)⟩) | (refine ⟨fun h => absurd rfl h, fun _ => ?_⟩) | (refine ⟨fun _ => ?_, fun h => absurd rfl h⟩)))
  refine px_return rfl rfl (Nat.le_refl _) (Nat.le_refl _) (hQ _ (fs_set fr_id (by omega)) ⟨(px_put_ne (by omega)).trans k0, s, f, dd, upd m i (nI 1), fw, (px_put_ne (by omega)).trans h1, (px_put_ne (by omega)).trans h2, (px_put_ne (by omega)).trans h3, px_put_self.trans (by rw [h4]; rfl), (px_put_ne (by omega)).trans h5, ⟨g, (px_put_ne (by omega)).trans h6⟩, v1, fun a ha => ?_⟩)
  obtain ⟨x1, x2, x3, x4⟩ := v2 a ha
  refine ⟨x1, x2, ?_, x4⟩
  by_cases hai : a = i
  · subst hai; rw [pk_us, va_up_s]
  · unfold upd; rw [if_neg hai, va_up_n hai]; exact x3
end EXQ
