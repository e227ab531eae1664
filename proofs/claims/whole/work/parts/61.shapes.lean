/-! the class's Shapes: found shapes by their first place in a table -/
def hsC (x : Nat) : Nat := (nI x * (-1640531535)).toBitVec.toNat / 2 ^ 20
theorem hsC_lt (x : Nat) : hsC x < 4096 := by
  unfold hsC
  have := (nI x * (-1640531535)).toBitVec.isLt
  omega
theorem hsC_u (x : Nat) : U8 (nI x * (-1640531535)) 20 = nI (hsC x) := by
  apply Int32.toBitVec_inj.mp
  apply BitVec.eq_of_toNat_eq
  rw [U8_n (by omega)]
  show _ = (BitVec.ofNat 32 (hsC x)).toNat
  rw [BitVec.toNat_ofNat]
  have := hsC_lt x
  unfold hsC at this ⊢
  omega
/-- the Shapes at os -/
def sX (ph : List px_E) (os c : Nat) (fo dp sl mk : Nat → Nat) (fl : Nat → Option Nat) : Prop := ph[os]? = some (SP os c) ∧ ∃ s f dd m fw : Nat → Int32, ph[os + 1]? = some (IA 4096 s) ∧ ph[os + 2]? = some (IA 3000 f) ∧ ph[os + 3]? = some (IA 3000 dd) ∧ ph[os + 4]? = some (IA 3000 m) ∧ ph[os + 5]? = some (IA 9000 fw) ∧ isIA ph (os + 6) 3000 ∧ (∀ q, q < 4096 → s q = nI (sl q)) ∧ ∀ i, i < c → f i = nI (fo i) ∧ dd i = nI (dp i) ∧ m i = nI (mk i) ∧ ∀ k, k < 3 → fw (i * 3 + k) = oI (fl (i * 3 + k))
/-- its cells alone -/
def sY (ph : List px_E) (os : Nat) : Prop := (∃ c, ph[os]? = some (SP os c)) ∧ isIA ph (os + 1) 4096 ∧ isIA ph (os + 2) 3000 ∧ isIA ph (os + 3) 3000 ∧ isIA ph (os + 4) 3000 ∧ isIA ph (os + 5) 9000 ∧ isIA ph (os + 6) 3000
def FS (os : Nat) : Nat → px_E → Prop := fun k _ => ¬ (os ≤ k ∧ k ≤ os + 6)
theorem fs_set {os : Nat} {ph ph' : List px_E} {k : Nat} {x : px_E} (h : fr (FS os) ph ph') (hk : os ≤ k ∧ k ≤ os + 6) : fr (FS os) ph (ph'.set k x) := fun j e p q => by
  have hne : ¬ k = j := fun z => by
    subst z
    exact p hk
  rw [px_put_ne hne]
  exact h j e p q
theorem sX.Y {ph : List px_E} {os c : Nat} {fo dp sl mk : Nat → Nat} {fl : Nat → Option Nat} (h : sX ph os c fo dp sl mk fl) : sY ph os := by
  obtain ⟨h0, s, f, dd, m, fw, h1, h2, h3, h4, h5, h6, -⟩ := h
  exact ⟨⟨c, h0⟩, ⟨_, h1⟩, ⟨_, h2⟩, ⟨_, h3⟩, ⟨_, h4⟩, ⟨_, h5⟩, h6⟩
theorem sX.fr {P : Nat → px_E → Prop} {ph ph' : List px_E} {os c : Nat} {fo dp sl mk : Nat → Nat} {fl : Nat → Option Nat} (hf : fr P ph ph') (hP : ∀ k e, os ≤ k → k ≤ os + 6 → P k e) (h : sX ph os c fo dp sl mk fl) : sX ph' os c fo dp sl mk fl := by
  obtain ⟨h0, s, f, dd, m, fw, h1, h2, h3, h4, h5, ⟨g, h6⟩, h7⟩ := h
  exact ⟨hf _ _ (hP _ _ (by omega) (by omega)) h0, s, f, dd, m, fw, hf _ _ (hP _ _ (by omega) (by omega)) h1, hf _ _ (hP _ _ (by omega) (by omega)) h2, hf _ _ (hP _ _ (by omega) (by omega)) h3, hf _ _ (hP _ _ (by omega) (by omega)) h4, hf _ _ (hP _ _ (by omega) (by omega)) h5, ⟨g, hf _ _ (hP _ _ (by omega) (by omega)) h6⟩, h7⟩
def flN (fl : Nat → Option Nat) (c : Nat) : Nat → Option Nat := fun t => if c * 3 ≤ t ∧ t < (c + 1) * 3 then none else fl t
section SHP
variable {G : px_G} {ph : List px_E} {d : Nat} {Q : Option Value → List px_E → Prop} {os c : Nat} {fo dp sl mk : Nat → Nat} {fl : Nat → Option Nat} {x y q : Nat}
theorem nI_m3 {j : Nat} (h : j < 2 ^ 31) : ¬ nI j = -3 := fun q => by
  have h1 := nI_toInt h
  rw [q] at h1
  have h2 : (-3 : Int32).toInt = -3 := by decide
  omega
set_option maxRecDepth 100000 in
set_option maxHeartbeats 4000000 in
theorem c_S_insert (h : sX ph os c fo dp sl mk fl) (hc : c ≤ 3000) (hq : q < 4096) (hQ1 : c = 3000 → Q (some (.int (-3))) ph) (hQ2 : c < 3000 → ∀ ph', fr (FS os) ph ph' → sX ph' os (c + 1) (va_up fo c x) (va_up dp c y) (va_up sl q (c + 1)) (va_up mk c 0) (flN fl c) → Q (some (.int (nI c))) ph') : px_Met G mX9_insert (d + 2) 0 0 [.ref os, .int (nI x), .int (nI y), .int (nI q)] ph Q := by
  obtain ⟨h0, s, f, dd, m, fw, h1, h2, h3, h4, h5, ⟨g, h6⟩, v1, v2⟩ := h
  refine px_start kX9_insert (Nat.le_of_ble_eq_true rfl) ?_
  show px_W G _ _ _ _ _ 0 0 0 [some (.ref os), some (.int (nI x)), some (.int (nI y)), some (.int (nI q))] [] ph
  rcases Nat.lt_or_ge c 3000 with hc3 | hc3
  rotate_left
  · have hc3 : c = 3000 := by omega
    have hq1 := hQ1 hc3
    subst hc3
    (repeat (first | (refine px_st rfl rfl ?_; simp only [px_wp, px_at, px_set, px_set2, px_clr, px_ldi, px_ldl, px_lda, px_i1, px_i2, px_l1, px_l2, px_il, px_a1, px_r1, px_r2, px_ir, px_vir, px_g, px_v1, px_v2, px_gf, px_pf, px_ps, px_ar, px_nth, px_upd, px_zero, px_dfl, px_put_self, px_put_ne, px_sw, nI_add, pk_mul, true_and, and_true, Nat.reduceAdd, Nat.reduceLT, Nat.reduceEqDiff, List.length_cons, List.length_nil, true_or, or_true, List.set_set, ne_eq, not_false_eq_true, Fin.isValue, Fin.val_zero, Fin.val_one, Fin.val_two, reduceCtorEq, Option.map_some, List.length_set, Nat.zero_lt_succ, Option.toList_some, Option.toList_none, List.cons_append, List.nil_append, px_b_2, IA, LA, BA, ZA, QA, PT, DR, TL, MC, CD, CC, false_and, or_false, false_or, nar_b, nar_0, nar_1, nar_y, h0, SP]) | (refine ⟨_, rfl, by omega, ?_⟩) | (refine ⟨fun h => absurd h (nI_nlt (by omega) (by omega)), fun _ => ?_⟩) | (refine ⟨fun _ => ?_, fun h => absurd h (nI_nlt (by omega) (by omega))⟩) | (refine ⟨fun h => absurd (nI_lt (by omega) (by omega)) h, fun _ => ?_⟩) | (refine ⟨fun _ => ?_, fun h => absurd (nI_lt (by omega) (by omega)) h⟩) | (refine ⟨fun h => absurd ((nI_eq (by omega) (by omega)).mp h) (by omega), fun _ => ?_⟩) | (refine ⟨fun _ => ?_, fun h => absurd ((nI_eq (by omega) (by omega)).mp h) (by omega)⟩) | (refine ⟨fun h => absurd h (by decide), fun _ => ?_⟩) | (refine ⟨fun _ => ?_, fun h => absurd h (by decide)⟩) | (refine ⟨fun h => absurd rfl h, fun _ => ?_⟩) | (refine ⟨fun _ => ?_, fun h => absurd rfl h⟩)))
    exact px_ireturn rfl (Or.inl rfl) (Nat.le_refl _) (Nat.le_refl _) hq1
  · have n1 : ¬ os + 1 = os := by omega
    have n2 : ¬ os + 2 = os := by omega
    have n3 : ¬ os + 3 = os := by omega
    have n4 : ¬ os + 4 = os := by omega
    have n5 : ¬ os + 5 = os := by omega
    have n21 : ¬ os + 2 = os + 3 := by omega
    have n22 : ¬ os + 2 = os + 4 := by omega
    have n23 : ¬ os + 3 = os + 4 := by omega
    have n24 : ¬ os + 2 = os + 5 := by omega
    have n25 : ¬ os + 3 = os + 5 := by omega
    have n26 : ¬ os + 4 = os + 5 := by omega
    (repeat (first | (refine px_st rfl rfl ?_; simp only [px_wp, px_at, px_set, px_set2, px_clr, px_ldi, px_ldl, px_lda, px_i1, px_i2, px_l1, px_l2, px_il, px_a1, px_r1, px_r2, px_ir, px_vir, px_g, px_v1, px_v2, px_gf, px_pf, px_ps, px_ar, px_nth, px_upd, px_zero, px_dfl, px_put_self, px_put_ne, px_sw, nI_add, pk_mul, true_and, and_true, Nat.reduceAdd, Nat.reduceLT, Nat.reduceEqDiff, List.length_cons, List.length_nil, true_or, or_true, List.set_set, ne_eq, not_false_eq_true, Fin.isValue, Fin.val_zero, Fin.val_one, Fin.val_two, reduceCtorEq, Option.map_some, List.length_set, Nat.zero_lt_succ, Option.toList_some, Option.toList_none, List.cons_append, List.nil_append, px_b_2, IA, LA, BA, ZA, QA, PT, DR, TL, MC, CD, CC, false_and, or_false, false_or, nar_b, nar_0, nar_1, nar_y, h0, SP, h2, h3, h4, h5, n2, n3, n4, n21, n22, n23]) | (refine ⟨_, rfl, by omega, ?_⟩) | (refine ⟨fun h => absurd h (nI_nlt (by omega) (by omega)), fun _ => ?_⟩) | (refine ⟨fun _ => ?_, fun h => absurd h (nI_nlt (by omega) (by omega))⟩) | (refine ⟨fun h => absurd (nI_lt (by omega) (by omega)) h, fun _ => ?_⟩) | (refine ⟨fun _ => ?_, fun h => absurd (nI_lt (by omega) (by omega)) h⟩) | (refine ⟨fun h => absurd ((nI_eq (by omega) (by omega)).mp h) (by omega), fun _ => ?_⟩) | (refine ⟨fun _ => ?_, fun h => absurd ((nI_eq (by omega) (by omega)).mp h) (by omega)⟩) | (refine ⟨fun h => absurd h (by decide), fun _ => ?_⟩) | (refine ⟨fun _ => ?_, fun h => absurd h (by decide)⟩) | (refine ⟨fun h => absurd rfl h, fun _ => ?_⟩) | (refine ⟨fun _ => ?_, fun h => absurd rfl h⟩)))
    have k5 : (((ph.set (os + 2) (IA 3000 (upd f c (nI x)))).set (os + 3) (IA 3000 (upd dd c (nI y)))).set (os + 4) (IA 3000 (upd m c (nI 0))))[os + 5]? = some (IA 9000 fw) := by simp only [px_put_ne, h5, n24, n25, n26, not_false_eq_true]
    refine px_cS rfl rfl kJ7_fill_fda19 rfl (c_fillR (d := d) (a := c * 3) (b := (c + 1) * 3) (by omega) (by omega) (by omega) k5 ?_) (Nat.le_refl _) rfl rfl (Nat.le_of_ble_eq_true rfl) (Nat.zero_le _) (Nat.zero_le _)
    have j0 : ((((ph.set (os + 2) (IA 3000 (upd f c (nI x)))).set (os + 3) (IA 3000 (upd dd c (nI y)))).set (os + 4) (IA 3000 (upd m c (nI 0)))).set (os + 5) (IA 9000 (va_fillR fw (c * 3) ((c + 1) * 3) (-2))))[os]? = some (SP os c) := by simp only [px_put_ne, h0, n2, n3, n4, n5, not_false_eq_true]
    have j1 : ((((ph.set (os + 2) (IA 3000 (upd f c (nI x)))).set (os + 3) (IA 3000 (upd dd c (nI y)))).set (os + 4) (IA 3000 (upd m c (nI 0)))).set (os + 5) (IA 9000 (va_fillR fw (c * 3) ((c + 1) * 3) (-2))))[os + 1]? = some (IA 4096 s) := by
      rw [px_put_ne (by omega), px_put_ne (by omega), px_put_ne (by omega), px_put_ne (by omega)]; exact h1
    have hf1 : fr (FS os) ph ((((ph.set (os + 2) (IA 3000 (upd f c (nI x)))).set (os + 3) (IA 3000 (upd dd c (nI y)))).set (os + 4) (IA 3000 (upd m c (nI 0)))).set (os + 5) (IA 9000 (va_fillR fw (c * 3) ((c + 1) * 3) (-2)))) := fs_set (fs_set (fs_set (fs_set fr_id (by omega)) (by omega)) (by omega)) (by omega)
    have j2 : ((((ph.set (os + 2) (IA 3000 (upd f c (nI x)))).set (os + 3) (IA 3000 (upd dd c (nI y)))).set (os + 4) (IA 3000 (upd m c (nI 0)))).set (os + 5) (IA 9000 (va_fillR fw (c * 3) ((c + 1) * 3) (-2))))[os + 2]? = some (IA 3000 (upd f c (nI x))) := by
      rw [px_put_ne (by omega), px_put_ne (by omega), px_put_ne (by omega), px_put_self, h2]; rfl
    have j3 : ((((ph.set (os + 2) (IA 3000 (upd f c (nI x)))).set (os + 3) (IA 3000 (upd dd c (nI y)))).set (os + 4) (IA 3000 (upd m c (nI 0)))).set (os + 5) (IA 9000 (va_fillR fw (c * 3) ((c + 1) * 3) (-2))))[os + 3]? = some (IA 3000 (upd dd c (nI y))) := by
      rw [px_put_ne (by omega), px_put_ne (by omega), px_put_self, px_put_ne (by omega), h3]; rfl
    have j4 : ((((ph.set (os + 2) (IA 3000 (upd f c (nI x)))).set (os + 3) (IA 3000 (upd dd c (nI y)))).set (os + 4) (IA 3000 (upd m c (nI 0)))).set (os + 5) (IA 9000 (va_fillR fw (c * 3) ((c + 1) * 3) (-2))))[os + 4]? = some (IA 3000 (upd m c (nI 0))) := by
      rw [px_put_ne (by omega), px_put_self, px_put_ne (by omega), px_put_ne (by omega), h4]; rfl
    have j5 : ((((ph.set (os + 2) (IA 3000 (upd f c (nI x)))).set (os + 3) (IA 3000 (upd dd c (nI y)))).set (os + 4) (IA 3000 (upd m c (nI 0)))).set (os + 5) (IA 9000 (va_fillR fw (c * 3) ((c + 1) * 3) (-2))))[os + 5]? = some (IA 9000 (va_fillR fw (c * 3) ((c + 1) * 3) (-2))) := by
      rw [px_put_self, k5]; rfl
    have j6 : ((((ph.set (os + 2) (IA 3000 (upd f c (nI x)))).set (os + 3) (IA 3000 (upd dd c (nI y)))).set (os + 4) (IA 3000 (upd m c (nI 0)))).set (os + 5) (IA 9000 (va_fillR fw (c * 3) ((c + 1) * 3) (-2))))[os + 6]? = some (IA 3000 g) := by
      rw [px_put_ne (by omega), px_put_ne (by omega), px_put_ne (by omega), px_put_ne (by omega)]; exact h6
    generalize ((((ph.set (os + 2) (IA 3000 (upd f c (nI x)))).set (os + 3) (IA 3000 (upd dd c (nI y)))).set (os + 4) (IA 3000 (upd m c (nI 0)))).set (os + 5) (IA 9000 (va_fillR fw (c * 3) ((c + 1) * 3) (-2)))) = ph1 at j0 j1 j2 j3 j4 j5 j6 hf1 ⊢
    (repeat (first | (refine px_st rfl rfl ?_; simp only [px_wp, px_at, px_set, px_set2, px_clr, px_ldi, px_ldl, px_lda, px_i1, px_i2, px_l1, px_l2, px_il, px_a1, px_r1, px_r2, px_ir, px_vir, px_g, px_v1, px_v2, px_gf, px_pf, px_ps, px_ar, px_nth, px_upd, px_zero, px_dfl, px_put_self, px_put_ne, px_sw, nI_add, pk_mul, true_and, and_true, Nat.reduceAdd, Nat.reduceLT, Nat.reduceEqDiff, List.length_cons, List.length_nil, true_or, or_true, List.set_set, ne_eq, not_false_eq_true, Fin.isValue, Fin.val_zero, Fin.val_one, Fin.val_two, reduceCtorEq, Option.map_some, List.length_set, Nat.zero_lt_succ, Option.toList_some, Option.toList_none, List.cons_append, List.nil_append, px_b_2, IA, LA, BA, ZA, QA, PT, DR, TL, MC, CD, CC, false_and, or_false, false_or, nar_b, nar_0, nar_1, nar_y, j0, SP, j1, n1]) | (refine ⟨_, rfl, by omega, ?_⟩) | (refine ⟨fun h => absurd h (nI_nlt (by omega) (by omega)), fun _ => ?_⟩) | (refine ⟨fun _ => ?_, fun h => absurd h (nI_nlt (by omega) (by omega))⟩) | (refine ⟨fun h => absurd (nI_lt (by omega) (by omega)) h, fun _ => ?_⟩) | (refine ⟨fun _ => ?_, fun h => absurd (nI_lt (by omega) (by omega)) h⟩) | (refine ⟨fun h => absurd ((nI_eq (by omega) (by omega)).mp h) (by omega), fun _ => ?_⟩) | (refine ⟨fun _ => ?_, fun h => absurd ((nI_eq (by omega) (by omega)).mp h) (by omega)⟩) | (refine ⟨fun h => absurd h (by decide), fun _ => ?_⟩) | (refine ⟨fun _ => ?_, fun h => absurd h (by decide)⟩) | (refine ⟨fun h => absurd rfl h, fun _ => ?_⟩) | (refine ⟨fun _ => ?_, fun h => absurd rfl h⟩)))
    refine px_ireturn rfl (Or.inl rfl) (Nat.le_refl _) (Nat.le_refl _) (hQ2 hc3 _ (fs_set (fs_set hf1 (by omega)) (by omega)) ⟨?_, upd s q (nI (c + 1)), upd f c (nI x), upd dd c (nI y), upd m c (nI 0), va_fillR fw (c * 3) ((c + 1) * 3) (-2), ?_, ?_, ?_, ?_, ?_, ⟨g, ?_⟩, fun p hp => ?_, fun i hi => ?_⟩)
    · simp only [px_put_self, px_put_ne, j0, n1, not_false_eq_true, Option.map_some]
    · simp only [px_put_self, px_put_ne, j1, show ¬ os = os + 1 by omega, not_false_eq_true, Option.map_some]
    · rw [px_put_ne (by omega), px_put_ne (by omega)]; exact j2
    · rw [px_put_ne (by omega), px_put_ne (by omega)]; exact j3
    · rw [px_put_ne (by omega), px_put_ne (by omega)]; exact j4
    · rw [px_put_ne (by omega), px_put_ne (by omega)]; exact j5
    · rw [px_put_ne (by omega), px_put_ne (by omega)]; exact j6
    · by_cases hpq : p = q
      · subst hpq; rw [pk_us, va_up_s]
      · unfold upd; rw [if_neg hpq, va_up_n hpq]; exact v1 p hp
    · by_cases hic : i = c
      · subst hic
        rw [pk_us, pk_us, pk_us, va_up_s, va_up_s, va_up_s]
        refine ⟨rfl, rfl, rfl, fun k hk => ?_⟩
        unfold va_fillR flN
        rw [if_pos ⟨by omega, by omega⟩, if_pos ⟨by omega, by omega⟩]
        rfl
      · obtain ⟨w1, w2, w3, w4⟩ := v2 i (by omega)
        rw [va_up_n hic, va_up_n hic, va_up_n hic]
        unfold upd
        rw [if_neg hic, if_neg hic, if_neg hic]
        refine ⟨w1, w2, w3, fun k hk => ?_⟩
        unfold va_fillR flN
        rw [if_neg (by omega), if_neg (by omega)]
        exact w4 k hk
set_option maxRecDepth 100000 in
set_option maxHeartbeats 4000000 in
theorem c_S_indexOf (h : sX ph os c fo dp sl mk fl) (hH : HT 4096 hsC c fo sl) (hc : c ≤ 3000) (hfo : ∀ i, i < c → fo i < 2 ^ 31) (hx : x < 2 ^ 31) (hQ1 : ∀ k, k < c → fo k = x → Q (some (.int (nI k))) ph) (hQ2 : (∀ k, k < c → ¬ fo k = x) → c = 3000 → Q (some (.int (-3))) ph) (hQ3 : (∀ k, k < c → ¬ fo k = x) → c < 3000 → ∀ sl' ph', fr (FS os) ph ph' → HT 4096 hsC (c + 1) (va_up fo c x) sl' → sX ph' os (c + 1) (va_up fo c x) (va_up dp c y) sl' (va_up mk c 0) (flN fl c) → Q (some (.int (nI c))) ph') : px_Met G mX9_indexOf (d + 3) 0 0 [.ref os, .int (nI x), .int (nI y)] ph Q := by
  have hX := h
  obtain ⟨h0, s, f, dd, m, fw, h1, h2, h3, h4, h5, h6, v1, v2⟩ := h
  obtain ⟨t0, ht0, hz⟩ := HT_free hH (by omega) x
  have hu := hsC_u x
  have hlt := hsC_lt x
  have loop : ∀ (r t : Nat) (l5 : Option Value), t + r = t0 → (∀ t', t' < t → ¬ sl ((hsC x + t') % 4096) = 0 ∧ ∀ k, k < c → sl ((hsC x + t') % 4096) = k + 1 → ¬ fo k = x) → px_W G mX9_indexOf (d + 3) 0 0 Q 0 0 11 [some (.ref os), some (.int (nI x)), some (.int (nI y)), some (.int (nI ((hsC x + t) % 4096))), some (.int (nI t)), l5] [] ph := by
    intro r
    induction r with
    | zero =>
      intro t l5 ht hp
      have htt : t = t0 := by omega
      subst htt
      have hm : (hsC x + t) % 4096 < 4096 := Nat.mod_lt _ (by omega)
      have hs := v1 _ hm
      rw [hz] at hs
      have hno := HT_no hH (fun t' ht' => (hp t' ht').2) hz
      (repeat (first | (refine px_st rfl rfl ?_; simp only [px_wp, px_at, px_set, px_set2, px_clr, px_ldi, px_ldl, px_lda, px_i1, px_i2, px_l1, px_l2, px_il, px_a1, px_r1, px_r2, px_ir, px_vir, px_g, px_v1, px_v2, px_gf, px_pf, px_ps, px_ar, px_nth, px_upd, px_zero, px_dfl, px_put_self, px_put_ne, px_sw, nI_add, pk_mul, true_and, and_true, Nat.reduceAdd, Nat.reduceLT, Nat.reduceEqDiff, List.length_cons, List.length_nil, true_or, or_true, List.set_set, ne_eq, not_false_eq_true, Fin.isValue, Fin.val_zero, Fin.val_one, Fin.val_two, reduceCtorEq, Option.map_some, List.length_set, Nat.zero_lt_succ, Option.toList_some, Option.toList_none, List.cons_append, List.nil_append, px_b_2, IA, LA, BA, ZA, QA, PT, DR, TL, MC, CD, CC, false_and, or_false, false_or, nar_b, nar_0, nar_1, nar_y, h0, SP, h1, hs]) | (refine ⟨_, rfl, by omega, ?_⟩) | (refine ⟨fun h => absurd h (nI_nlt (by omega) (by omega)), fun _ => ?_⟩) | (refine ⟨fun _ => ?_, fun h => absurd h (nI_nlt (by omega) (by omega))⟩) | (refine ⟨fun h => absurd (nI_lt (by omega) (by omega)) h, fun _ => ?_⟩) | (refine ⟨fun _ => ?_, fun h => absurd (nI_lt (by omega) (by omega)) h⟩) | (refine ⟨fun h => absurd ((nI_eq (by omega) (by omega)).mp h) (by omega), fun _ => ?_⟩) | (refine ⟨fun _ => ?_, fun h => absurd ((nI_eq (by omega) (by omega)).mp h) (by omega)⟩) | (refine ⟨fun h => absurd h (by decide), fun _ => ?_⟩) | (refine ⟨fun _ => ?_, fun h => absurd h (by decide)⟩) | (refine ⟨fun h => absurd rfl h, fun _ => ?_⟩) | (refine ⟨fun _ => ?_, fun h => absurd rfl h⟩)))
      refine px_cV rfl rfl kX9_insert rfl (c_S_insert (d := d) hX hc hm (fun q => ?_) (fun hc3 ph' hf' hX' => ?_)) (Nat.le_refl _) h0 rfl rfl rfl (Nat.le_of_ble_eq_true rfl) (Nat.zero_le _) (Nat.zero_le _)
      · exact px_ireturn rfl (Or.inl rfl) (Nat.le_refl _) (Nat.le_refl _) (hQ2 hno q)
      · exact px_ireturn rfl (Or.inl rfl) (Nat.le_refl _) (Nat.le_refl _) (hQ3 hno hc3 _ ph' hf' (HT_put hH ht0 (fun t' ht' => (hp t' ht').1) hz) hX')
    | succ r ih =>
      intro t l5 ht hp
      have hm : (hsC x + t) % 4096 < 4096 := Nat.mod_lt _ (by omega)
      have hs := v1 _ hm
      have hle := hH.1 _ hm
      by_cases h00 : sl ((hsC x + t) % 4096) = 0
      · rw [h00] at hs
        have hno := HT_no hH (fun t' ht' => (hp t' ht').2) h00
        (repeat (first | (refine px_st rfl rfl ?_; simp only [px_wp, px_at, px_set, px_set2, px_clr, px_ldi, px_ldl, px_lda, px_i1, px_i2, px_l1, px_l2, px_il, px_a1, px_r1, px_r2, px_ir, px_vir, px_g, px_v1, px_v2, px_gf, px_pf, px_ps, px_ar, px_nth, px_upd, px_zero, px_dfl, px_put_self, px_put_ne, px_sw, nI_add, pk_mul, true_and, and_true, Nat.reduceAdd, Nat.reduceLT, Nat.reduceEqDiff, List.length_cons, List.length_nil, true_or, or_true, List.set_set, ne_eq, not_false_eq_true, Fin.isValue, Fin.val_zero, Fin.val_one, Fin.val_two, reduceCtorEq, Option.map_some, List.length_set, Nat.zero_lt_succ, Option.toList_some, Option.toList_none, List.cons_append, List.nil_append, px_b_2, IA, LA, BA, ZA, QA, PT, DR, TL, MC, CD, CC, false_and, or_false, false_or, nar_b, nar_0, nar_1, nar_y, h0, SP, h1, hs]) | (refine ⟨_, rfl, by omega, ?_⟩) | (refine ⟨fun h => absurd h (nI_nlt (by omega) (by omega)), fun _ => ?_⟩) | (refine ⟨fun _ => ?_, fun h => absurd h (nI_nlt (by omega) (by omega))⟩) | (refine ⟨fun h => absurd (nI_lt (by omega) (by omega)) h, fun _ => ?_⟩) | (refine ⟨fun _ => ?_, fun h => absurd (nI_lt (by omega) (by omega)) h⟩) | (refine ⟨fun h => absurd ((nI_eq (by omega) (by omega)).mp h) (by omega), fun _ => ?_⟩) | (refine ⟨fun _ => ?_, fun h => absurd ((nI_eq (by omega) (by omega)).mp h) (by omega)⟩) | (refine ⟨fun h => absurd h (by decide), fun _ => ?_⟩) | (refine ⟨fun _ => ?_, fun h => absurd h (by decide)⟩) | (refine ⟨fun h => absurd rfl h, fun _ => ?_⟩) | (refine ⟨fun _ => ?_, fun h => absurd rfl h⟩)))
        refine px_cV rfl rfl kX9_insert rfl (c_S_insert (d := d) hX hc hm (fun q => ?_) (fun hc3 ph' hf' hX' => ?_)) (Nat.le_refl _) h0 rfl rfl rfl (Nat.le_of_ble_eq_true rfl) (Nat.zero_le _) (Nat.zero_le _)
        · exact px_ireturn rfl (Or.inl rfl) (Nat.le_refl _) (Nat.le_refl _) (hQ2 hno q)
        · exact px_ireturn rfl (Or.inl rfl) (Nat.le_refl _) (Nat.le_refl _) (hQ3 hno hc3 _ ph' hf' (HT_put hH (by omega) (fun t' ht' => (hp t' ht').1) h00) hX')
      · obtain ⟨k, hk⟩ : ∃ k, sl ((hsC x + t) % 4096) = k + 1 := ⟨_, (Nat.succ_pred h00).symm⟩
        rw [hk] at hs
        have hkc : k < c := by omega
        obtain ⟨w1, -⟩ := v2 k hkc
        have hsub : nI (k + 1) - nI 1 = nI k := pk_sub (by omega)
        by_cases hfx : fo k = x
        · rw [hfx] at w1
          have hq1 := hQ1 k hkc hfx
          (repeat (first | (refine px_st rfl rfl ?_; simp only [px_wp, px_at, px_set, px_set2, px_clr, px_ldi, px_ldl, px_lda, px_i1, px_i2, px_l1, px_l2, px_il, px_a1, px_r1, px_r2, px_ir, px_vir, px_g, px_v1, px_v2, px_gf, px_pf, px_ps, px_ar, px_nth, px_upd, px_zero, px_dfl, px_put_self, px_put_ne, px_sw, nI_add, pk_mul, true_and, and_true, Nat.reduceAdd, Nat.reduceLT, Nat.reduceEqDiff, List.length_cons, List.length_nil, true_or, or_true, List.set_set, ne_eq, not_false_eq_true, Fin.isValue, Fin.val_zero, Fin.val_one, Fin.val_two, reduceCtorEq, Option.map_some, List.length_set, Nat.zero_lt_succ, Option.toList_some, Option.toList_none, List.cons_append, List.nil_append, px_b_2, IA, LA, BA, ZA, QA, PT, DR, TL, MC, CD, CC, false_and, or_false, false_or, nar_b, nar_0, nar_1, nar_y, h0, SP, h1, hs, hsub, h2, w1]) | (refine ⟨_, rfl, by omega, ?_⟩) | (refine ⟨fun h => absurd h (nI_nlt (by omega) (by omega)), fun _ => ?_⟩) | (refine ⟨fun _ => ?_, fun h => absurd h (nI_nlt (by omega) (by omega))⟩) | (refine ⟨fun h => absurd (nI_lt (by omega) (by omega)) h, fun _ => ?_⟩) | (refine ⟨fun _ => ?_, fun h => absurd (nI_lt (by omega) (by omega)) h⟩) | (refine ⟨fun h => absurd ((nI_eq (by omega) (by omega)).mp h) (by omega), fun _ => ?_⟩) | (refine ⟨fun _ => ?_, fun h => absurd ((nI_eq (by omega) (by omega)).mp h) (by omega)⟩) | (refine ⟨fun h => absurd h (by decide), fun _ => ?_⟩) | (refine ⟨fun _ => ?_, fun h => absurd h (by decide)⟩) | (refine ⟨fun h => absurd rfl h, fun _ => ?_⟩) | (refine ⟨fun _ => ?_, fun h => absurd rfl h⟩)))
          exact px_ireturn rfl (Or.inl rfl) (Nat.le_refl _) (Nat.le_refl _) hq1
        · have hfl := hfo k hkc
          have hne : ¬ nI (fo k) = nI x := fun q => hfx ((nI_eq hfl hx).mp q)
          have hand : nI ((hsC x + t) % 4096 + 1) &&& nI 4095 = nI ((hsC x + (t + 1)) % 4096) := by
            rw [pk_andN (by omega) 12 (by decide)]
            congr 1
            omega
          have hih := ih (t + 1) (some (.int (nI (k + 1)))) (by omega) (fun t' ht' => by
            by_cases htt : t' = t
            · subst htt
              refine ⟨h00, fun k' hk' e => ?_⟩
              rw [hk] at e
              have : k = k' := by omega
              subst this
              exact hfx
            · exact hp t' (by omega))
          (repeat (first | (first | exact hih | refine ⟨fun _ => ?_, fun q => absurd q hne⟩) | (refine px_st rfl rfl ?_; simp only [px_wp, px_at, px_set, px_set2, px_clr, px_ldi, px_ldl, px_lda, px_i1, px_i2, px_l1, px_l2, px_il, px_a1, px_r1, px_r2, px_ir, px_vir, px_g, px_v1, px_v2, px_gf, px_pf, px_ps, px_ar, px_nth, px_upd, px_zero, px_dfl, px_put_self, px_put_ne, px_sw, nI_add, pk_mul, true_and, and_true, Nat.reduceAdd, Nat.reduceLT, Nat.reduceEqDiff, List.length_cons, List.length_nil, true_or, or_true, List.set_set, ne_eq, not_false_eq_true, Fin.isValue, Fin.val_zero, Fin.val_one, Fin.val_two, reduceCtorEq, Option.map_some, List.length_set, Nat.zero_lt_succ, Option.toList_some, Option.toList_none, List.cons_append, List.nil_append, px_b_2, IA, LA, BA, ZA, QA, PT, DR, TL, MC, CD, CC, false_and, or_false, false_or, nar_b, nar_0, nar_1, nar_y, h0, SP, h1, hs, hsub, h2, w1, hand]) | (refine ⟨_, rfl, by omega, ?_⟩) | (refine ⟨fun h => absurd h (nI_nlt (by omega) (by omega)), fun _ => ?_⟩) | (refine ⟨fun _ => ?_, fun h => absurd h (nI_nlt (by omega) (by omega))⟩) | (refine ⟨fun h => absurd (nI_lt (by omega) (by omega)) h, fun _ => ?_⟩) | (refine ⟨fun _ => ?_, fun h => absurd (nI_lt (by omega) (by omega)) h⟩) | (refine ⟨fun h => absurd ((nI_eq (by omega) (by omega)).mp h) (by omega), fun _ => ?_⟩) | (refine ⟨fun _ => ?_, fun h => absurd ((nI_eq (by omega) (by omega)).mp h) (by omega)⟩) | (refine ⟨fun h => absurd h (by decide), fun _ => ?_⟩) | (refine ⟨fun _ => ?_, fun h => absurd h (by decide)⟩) | (refine ⟨fun h => absurd rfl h, fun _ => ?_⟩) | (refine ⟨fun _ => ?_, fun h => absurd rfl h⟩)))
  have hl := loop t0 0 none (by omega) (fun t' ht' => absurd ht' (by omega))
  rw [show (hsC x + 0) % 4096 = hsC x by omega] at hl
  refine px_start kX9_indexOf (Nat.le_of_ble_eq_true rfl) ?_
  show px_W G _ _ _ _ _ 0 0 0 [some (.ref os), some (.int (nI x)), some (.int (nI y)), none, none, none] [] ph
  (repeat (first | (exact hl) | (refine px_st rfl rfl ?_; simp only [px_wp, px_at, px_set, px_set2, px_clr, px_ldi, px_ldl, px_lda, px_i1, px_i2, px_l1, px_l2, px_il, px_a1, px_r1, px_r2, px_ir, px_vir, px_g, px_v1, px_v2, px_gf, px_pf, px_ps, px_ar, px_nth, px_upd, px_zero, px_dfl, px_put_self, px_put_ne, px_sw, nI_add, pk_mul, true_and, and_true, Nat.reduceAdd, Nat.reduceLT, Nat.reduceEqDiff, List.length_cons, List.length_nil, true_or, or_true, List.set_set, ne_eq, not_false_eq_true, Fin.isValue, Fin.val_zero, Fin.val_one, Fin.val_two, reduceCtorEq, Option.map_some, List.length_set, Nat.zero_lt_succ, Option.toList_some, Option.toList_none, List.cons_append, List.nil_append, px_b_2, IA, LA, BA, ZA, QA, PT, DR, TL, MC, CD, CC, false_and, or_false, false_or, nar_b, nar_0, nar_1, nar_y, U8_f, hu]) | (refine ⟨_, rfl, by omega, ?_⟩) | (refine ⟨fun h => absurd h (nI_nlt (by omega) (by omega)), fun _ => ?_⟩) | (refine ⟨fun _ => ?_, fun h => absurd h (nI_nlt (by omega) (by omega))⟩) | (refine ⟨fun h => absurd (nI_lt (by omega) (by omega)) h, fun _ => ?_⟩) | (refine ⟨fun _ => ?_, fun h => absurd (nI_lt (by omega) (by omega)) h⟩) | (refine ⟨fun h => absurd ((nI_eq (by omega) (by omega)).mp h) (by omega), fun _ => ?_⟩) | (refine ⟨fun _ => ?_, fun h => absurd ((nI_eq (by omega) (by omega)).mp h) (by omega)⟩) | (refine ⟨fun h => absurd h (by decide), fun _ => ?_⟩) | (refine ⟨fun _ => ?_, fun h => absurd h (by decide)⟩) | (refine ⟨fun h => absurd rfl h, fun _ => ?_⟩) | (refine ⟨fun _ => ?_, fun h => absurd rfl h⟩)))
end SHP
