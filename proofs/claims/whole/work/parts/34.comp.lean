/-- the class's queue, which may hold the broken pair at z -/
def cZ (z : Option Nat) (n nc : Nat) (q : Nat → Nat) (qa cf : Nat → Int32) : Prop := match z with
  | none => nc = n ∧ (∀ j, j < n → qa j = nI (q j)) ∧ cf 624 = -2
  | some z0 => z0 ≤ n ∧ nc = n + 1 ∧ (∀ j, j < z0 → qa j = nI (q j)) ∧ qa z0 = nI 624 ∧ (∀ j, z0 ≤ j → j < n → qa (j + 1) = nI (q j)) ∧ ¬ cf 624 = -2
def cR (z : Option Nat) (n nc : Nat) (q : Nat → Nat) (pt : Nat → List Nat) (qa cf cb : Nat → Int32) : Prop := cPth n q pt cf cb ∧ (∀ p, p < 624 → mtB q n p = false → cf p = -2) ∧ (∀ j, j < n → ¬ cf (q j) = -2) ∧ cZ z n nc q qa cf
theorem cPth_up {n : Nat} {q : Nat → Nat} {pt : Nat → List Nat} {cf cb : Nat → Int32} {p : Nat} {u v : Int32} (h : cPth n q pt cf cb) (hne : ∀ j, j < n → ¬ q j = p) : cPth n q pt (upd cf p u) (upd cb p v) := by
  intro j hj
  rcases h j hj with h1 | ⟨h1, i, x, h2, h3, h4, h5⟩
  · exact Or.inl h1
  · refine Or.inr ⟨h1, i, x, h2, ?_, ?_, h5⟩
    · unfold upd; rw [if_neg (hne j hj)]; exact h3
    · unfold upd; rw [if_neg (hne j hj)]; exact h4
theorem mtB_no {q : Nat → Nat} {n p : Nat} (h : mtB q n p = false) : ∀ j, j < n → ¬ q j = p := fun j hj hq => by
  have := (mtB_iff (q := q) (p := p) n).mpr ⟨j, hj, hq⟩
  rw [h] at this; cases this
theorem nI_n2 {p : Nat} (h : p < 2 ^ 31) : ¬ nI p = -2 := nI_m2 h
/-- the broken pair is met -/
theorem cR_624 {V : Nat → Prop} {n nc : Nat} {q : Nat → Nat} {pt : Nat → List Nat} {qa cf cb : Nat → Int32} {k e : Nat} (hB : BQ V n q) (hk : k < n) (h : cR none n nc q pt qa cf cb) : cR (some n) n (nc + 1) q pt (upd qa nc (nI 624)) (upd cf 624 (nI (q k))) (upd cb 624 (nI e)) := by
  obtain ⟨h1, h2, h3, h4, h5, h6⟩ := h
  have hne : ∀ j, j < n → ¬ q j = 624 := fun j hj => by have := (hB.1 j hj).1; omega
  have hqk := (hB.1 k hk).1
  subst h4
  refine ⟨cPth_up h1 hne, fun p hp hm => ?_, fun j hj => ?_, Nat.le_refl _, rfl, fun j hj => ?_, pk_us, fun j a b => absurd b (by omega), ?_⟩
  · unfold upd; rw [if_neg (by omega)]; exact h2 p hp hm
  · unfold upd; rw [if_neg (hne j hj)]; exact h3 j hj
  · unfold upd; rw [if_neg (by omega)]; exact h5 j hj
  · rw [pk_us]; exact nI_n2 (by omega)
/-- a new pair is met -/
theorem cR_new {V : Nat → Prop} {z : Option Nat} {n nc : Nat} {q : Nat → Nat} {pt : Nat → List Nat} {qa cf cb : Nat → Int32} {k e p : Nat} (hB : BQ V n q) (hk : k < n) (h0 : ∀ j, j < n → j = 0 → q j = 0) (hp : p < 624) (hm : mtB q n p = false) (h : cR z n nc q pt qa cf cb) : cR z (n + 1) (nc + 1) (va_up q n p) (va_up pt n (e :: pt k)) (upd qa nc (nI p)) (upd cf p (nI (q k))) (upd cb p (nI e)) := by
  obtain ⟨h1, h2, h3, h4⟩ := h
  have hne := mtB_no hm
  have hqk := (hB.1 k hk).1
  refine ⟨fun j hj => ?_, fun x hx hmx => ?_, fun j hj => ?_, ?_⟩
  · by_cases hjn : j = n
    · subst hjn
      refine Or.inr ⟨?_, k, e, hk, ?_, ?_, ?_⟩
      · rw [va_up_s]
        intro hp0
        exact hne 0 (by omega) ((h0 0 (by omega) rfl).trans hp0.symm)
      · rw [va_up_s, pk_us, va_up_n (by omega)]
      · rw [va_up_s, pk_us]
      · rw [va_up_s, va_up_n (by omega)]
    · rw [va_up_n hjn, va_up_n hjn]
      rcases cPth_up (p := p) (u := nI (q k)) (v := nI e) h1 hne j (by omega) with a | ⟨a1, i, x, a2, a3, a4, a5⟩
      · exact Or.inl a
      · refine Or.inr ⟨a1, i, x, a2, ?_, a4, ?_⟩
        · rw [va_up_n (by omega)]; exact a3
        · rw [va_up_n (by omega)]; exact a5
  · have hmx' : mtB q n x = false ∧ ¬ p = x := by
      unfold mtB at hmx
      rw [Bool.or_eq_false_iff, va_up_s] at hmx
      refine ⟨?_, of_decide_eq_false hmx.2⟩
      have hx1 := mtB_no hmx.1
      cases hq : mtB q n x with
      | false => rfl
      | true =>
        obtain ⟨j, hj, hjq⟩ := (mtB_iff n).mp hq
        have := hx1 j hj
        rw [va_up_n (by omega)] at this
        exact absurd hjq this
    unfold upd
    rw [if_neg (fun y => hmx'.2 y.symm)]
    exact h2 x hx hmx'.1
  · by_cases hjn : j = n
    · subst hjn
      rw [va_up_s, pk_us]
      exact nI_n2 (by omega)
    · rw [va_up_n hjn]
      unfold upd
      rw [if_neg (hne j (by omega))]
      exact h3 j (by omega)
  · cases z with
    | none =>
      obtain ⟨a1, a2, a3⟩ := h4
      subst a1
      refine ⟨rfl, fun j hj => ?_, ?_⟩
      · by_cases hjn : j = nc
        · subst hjn; rw [pk_us, va_up_s]
        · rw [va_up_n hjn]; unfold upd; rw [if_neg hjn]; exact a2 j (by omega)
      · unfold upd; rw [if_neg (by omega)]; exact a3
    | some z0 =>
      obtain ⟨a0, a1, a2, a3, a4, a5⟩ := h4
      subst a1
      refine ⟨by omega, rfl, fun j hj => ?_, ?_, fun j hj1 hj2 => ?_, ?_⟩
      · rw [va_up_n (by omega)]; unfold upd; rw [if_neg (by omega)]; exact a2 j hj
      · unfold upd; rw [if_neg (by omega)]; exact a3
      · by_cases hjn : j = n
        · subst hjn; rw [pk_us, va_up_s]
        · rw [va_up_n hjn]; unfold upd; rw [if_neg (by omega)]; exact a4 j hj1 (by omega)
      · unfold upd; rw [if_neg (by omega)]; exact a5
/-- where pair k stands in the class's queue -/
def PO (z : Option Nat) (k a : Nat) : Prop := match z with
  | none => a = k
  | some z0 => (a = k ∧ k < z0) ∨ (a = k + 1 ∧ z0 ≤ k)
theorem PO_at {z : Option Nat} {n nc k a : Nat} {q : Nat → Nat} {pt : Nat → List Nat} {qa cf cb : Nat → Int32} (h : cR z n nc q pt qa cf cb) (hk : k < n) (hp : PO z k a) : a < nc ∧ qa a = nI (q k) := by
  obtain ⟨-, -, -, h4⟩ := h
  cases z with
  | none =>
    obtain ⟨a1, a2, a3⟩ := h4
    have hp : a = k := hp
    subst hp
    exact ⟨by omega, a2 a hk⟩
  | some z0 =>
    obtain ⟨a0, a1, a2, a3, a4, a5⟩ := h4
    rcases hp with ⟨p1, p2⟩ | ⟨p1, p2⟩
    · subst p1; exact ⟨by omega, a2 a p2⟩
    · subst p1; exact ⟨by omega, a4 k p2 hk⟩
theorem cR_nc {V : Nat → Prop} {z : Option Nat} {n nc : Nat} {q : Nat → Nat} {pt : Nat → List Nat} {qa cf cb : Nat → Int32} (hB : BQ V n q) (h : cR z n nc q pt qa cf cb) : nc ≤ 625 := by
  have := BQ_n hB
  obtain ⟨-, -, -, h4⟩ := h
  cases z with
  | none => have := h4.1; omega
  | some z0 => have := h4.2.1; omega
theorem cR_nc1 {V : Nat → Prop} {z : Option Nat} {n nc p : Nat} {q : Nat → Nat} {pt : Nat → List Nat} {qa cf cb : Nat → Int32} (hB : BQ V n q) (h : cR z n nc q pt qa cf cb) (hp : p < 624) (hV : V p) (hm : mtB q n p = false) : nc < 625 := by
  have := BQ_n (BQ_add hB hp hV hm)
  obtain ⟨-, -, -, h4⟩ := h
  cases z with
  | none => have := h4.1; omega
  | some z0 => have := h4.2.1; omega
def cRow (w : Option (List Nat)) (rl : Int32) (r : Nat → Int32) : Prop := rl = oI (w.map List.length) ∧ ∀ L, w = some L → L.length ≤ 624 ∧ ∀ i, i < L.length → r i = nI (rowOf L i)
section CM2
variable {G : px_G} {ph : List px_E} {d : Nat} {Q : Option Value → List px_E → Prop}
abbrev cH (ph : List px_E) (c : Nat) (rl : Int32) (qa cf cb r : Nat → Int32) : List px_E := ((((ph.set 45 (CM c rl)).set 46 (IA 625 qa)).set 47 (IA 625 cf)).set 48 (IA 625 cb)).set 49 (IA 625 r)
set_option maxRecDepth 100000 in
set_option maxHeartbeats 4000000 in
theorem c_X_reach {c p : Nat} {rl fm ev : Int32} {qa cf cb : Nat → Int32} (hp : p < 625) (h45 : ph[45]? = some (CM c rl)) (h46 : ph[46]? = some (IA 625 qa)) (h47 : ph[47]? = some (IA 625 cf)) (h48 : ph[48]? = some (IA 625 cb)) (hQ1 : ¬ cf p = -2 → Q none ph) (hQ2 : cf p = -2 → c < 625 ∧ Q none ((((ph.set 45 (CM (c + 1) rl)).set 46 (IA 625 (upd qa c (nI p)))).set 47 (IA 625 (upd cf p fm))).set 48 (IA 625 (upd cb p ev)))) : px_Met G mX2_reach d 0 0 [.ref 45, .int (nI p), .int fm, .int ev] ph Q := by
  refine px_start kX2_reach (Nat.le_of_ble_eq_true rfl) ?_
  show px_W G _ _ _ _ _ 0 0 0 [some (.ref 45), some (.int (nI p)), some (.int fm), some (.int ev)] [] ph
  by_cases h : cf p = -2
  · obtain ⟨hc, hq⟩ := hQ2 h
    (repeat (first | (refine ⟨by decide, ?_⟩) | (refine px_st rfl rfl ?_; simp only [px_wp, px_at, px_set, px_set2, px_clr, px_ldi, px_ldl, px_lda, px_i1, px_i2, px_l1, px_l2, px_il, px_a1, px_r1, px_r2, px_ir, px_vir, px_g, px_v1, px_v2, px_gf, px_pf, px_ps, px_ar, px_nth, px_upd, px_zero, px_dfl, px_put_self, px_put_ne, px_sw, nI_add, pk_mul, true_and, and_true, Nat.reduceAdd, Nat.reduceLT, Nat.reduceEqDiff, List.length_cons, List.length_nil, true_or, or_true, List.set_set, ne_eq, not_false_eq_true, Fin.isValue, Fin.val_zero, Fin.val_one, Fin.val_two, reduceCtorEq, Option.map_some, List.length_set, Nat.zero_lt_succ, Option.toList_some, Option.toList_none, List.cons_append, List.nil_append, px_b_2, IA, LA, BA, ZA, QA, PT, DR, TL, MC, CD, CC, false_and, or_false, false_or, nar_b, nar_0, nar_1, nar_y, h45, h46, h47, h48, h]) | (refine ⟨_, rfl, by omega, ?_⟩) | (refine ⟨fun h => absurd h (nI_nlt (by omega) (by omega)), fun _ => ?_⟩) | (refine ⟨fun _ => ?_, fun h => absurd h (nI_nlt (by omega) (by omega))⟩) | (refine ⟨fun h => absurd (nI_lt (by omega) (by omega)) h, fun _ => ?_⟩) | (refine ⟨fun _ => ?_, fun h => absurd (nI_lt (by omega) (by omega)) h⟩) | (refine ⟨fun h => absurd ((nI_eq (by omega) (by omega)).mp h) (by omega), fun _ => ?_⟩) | (refine ⟨fun _ => ?_, fun h => absurd ((nI_eq (by omega) (by omega)).mp h) (by omega)⟩) | (refine ⟨fun h => absurd h (by decide), fun _ => ?_⟩) | (refine ⟨fun _ => ?_, fun h => absurd h (by decide)⟩) | (refine ⟨fun h => absurd rfl h, fun _ => ?_⟩) | (refine ⟨fun _ => ?_, fun h => absurd rfl h⟩)))
    exact px_return rfl rfl (Nat.le_refl _) (Nat.le_refl _) hq
  · (repeat (first | (refine ⟨_, rfl, by omega, ?_⟩) | (refine px_st rfl rfl ?_; simp only [px_wp, px_at, px_set, px_set2, px_clr, px_ldi, px_ldl, px_lda, px_i1, px_i2, px_l1, px_l2, px_il, px_a1, px_r1, px_r2, px_ir, px_vir, px_g, px_v1, px_v2, px_gf, px_pf, px_ps, px_ar, px_nth, px_upd, px_zero, px_dfl, px_put_self, px_put_ne, px_sw, nI_add, pk_mul, true_and, and_true, Nat.reduceAdd, Nat.reduceLT, Nat.reduceEqDiff, List.length_cons, List.length_nil, true_or, or_true, List.set_set, ne_eq, not_false_eq_true, Fin.isValue, Fin.val_zero, Fin.val_one, Fin.val_two, reduceCtorEq, Option.map_some, List.length_set, Nat.zero_lt_succ, Option.toList_some, Option.toList_none, List.cons_append, List.nil_append, px_b_2, IA, LA, BA, ZA, QA, PT, DR, TL, MC, CD, CC, false_and, or_false, false_or, nar_b, nar_0, nar_1, nar_y, h45, h47])))
    refine ⟨fun _ => ?_, fun q => absurd q h⟩
    exact px_return rfl rfl (Nat.le_refl _) (Nat.le_refl _) (hQ1 h)
set_option maxRecDepth 100000 in
set_option maxHeartbeats 4000000 in
theorem c_X_relate {a b s1 s2 p1 q1 p2 q2 c0 : Nat} {z1 z2 : Bool} {f1 f2 g1 g2 qa0 cf0 cb0 r0 : Nat → Int32} {rl0 : Int32} {nx1 nx2 : Nat → Nat → Option Nat} {en1 en2 : Nat → Bool} {oMF oNF : Bool} {wF : Option (List Nat)} (hs1 : 1 ≤ s1 ∧ s1 ≤ 24) (hs2 : 1 ≤ s2 ∧ s2 ≤ 24) (hn1 : ∀ u, u < s1 → ∀ e, e < 24 → ∀ j, nx1 u e = some j → j < s1) (hn2 : ∀ u, u < s2 → ∀ e, e < 24 → ∀ j, nx2 u e = some j → j < s2) (h153 : 153 ≤ a ∧ 153 ≤ b ∧ 153 ≤ p1 ∧ 153 ≤ p2 ∧ 153 ≤ q1 ∧ 153 ≤ q2) (ha : ph[a]? = some (MC s1 z1 p1 q1)) (hb : ph[b]? = some (MC s2 z2 p2 q2)) (hp1 : ph[p1]? = some (IA (s1 * 24) f1)) (hp2 : ph[p2]? = some (IA (s2 * 24) f2)) (hq1 : ph[q1]? = some (IA s1 g1)) (hq2 : ph[q2]? = some (IA s2 g2)) (hf1 : ∀ u, u < s1 → ∀ e, e < 24 → f1 (u * 24 + e) = oI (nx1 u e)) (hf2 : ∀ u, u < s2 → ∀ e, e < 24 → f2 (u * 24 + e) = oI (nx2 u e)) (hg1 : ∀ u, u < s1 → g1 u = px_b (en1 u)) (hg2 : ∀ u, u < s2 → g2 u = px_b (en2 u)) (h45 : ph[45]? = some (CM c0 rl0)) (h46 : ph[46]? = some (IA 625 qa0)) (h47 : ph[47]? = some (IA 625 cf0)) (h48 : ph[48]? = some (IA 625 cb0)) (h49 : ph[49]? = some (IA 625 r0))
    (hT : bS (pP nx1 nx2) (fun p => pR en1 (p / 25)) (fun p => pR en2 (p % 25)) 626 0 1 (fun _ => 0) (fun _ => []) false false none = some (oMF, oNF, wF))
    (hQ : ∀ c rl qa cf cb r, cRow wF rl r → Q (some (.int (nI ((if oMF then 2 else 0) + (if oNF then 1 else 0))))) (cH ph c rl qa cf cb r)) : px_Met G mX2_relate (d + 2) 0 0 [.ref 45, .ref a, .ref b] ph Q := by
  have hPV := pP_ok hn1 hn2 hs1.2 hs2.2
  refine px_start kX2_relate (Nat.le_of_ble_eq_true rfl) ?_
  show px_W G _ _ _ _ _ 0 0 0 [some (.ref 45), some (.ref a), some (.ref b), none, none, none, none, none, none, none, none] [] ph
  have gt : ∀ {c rl qa cf cb r}, (cH ph c rl qa cf cb r)[45]? = some (CM c rl) ∧ (cH ph c rl qa cf cb r)[46]? = some (IA 625 qa) ∧ (cH ph c rl qa cf cb r)[47]? = some (IA 625 cf) ∧ (cH ph c rl qa cf cb r)[48]? = some (IA 625 cb) ∧ (cH ph c rl qa cf cb r)[49]? = some (IA 625 r) := fun {_ _ _ _ _ _} => by
    refine ⟨?_, ?_, ?_, ?_, ?_⟩ <;> simp only [px_put_self, px_put_ne, h45, h46, h47, h48, h49, Nat.reduceEqDiff, not_false_eq_true, Option.map_some]
  have ge : ∀ {c rl qa cf cb r} o, 153 ≤ o → (cH ph c rl qa cf cb r)[o]? = ph[o]? := fun {_ _ _ _ _ _} o ho => by
    rw [px_put_ne (by omega), px_put_ne (by omega), px_put_ne (by omega), px_put_ne (by omega), px_put_ne (by omega)]
  -- the pairs from k on
  have main : ∀ (K k n nc ac : Nat) (q : Nat → Nat) (pt : Nat → List Nat) (oM oN : Bool) (w : Option (List Nat)) (z : Option Nat) (rl : Int32) (qa cf cb r : Nat → Int32) (x6 x7 x8 x9 x10 : Option Value), bS (pP nx1 nx2) (fun p => pR en1 (p / 25)) (fun p => pR en2 (p % 25)) K k n q pt oM oN w = some (oMF, oNF, wF) → k ≤ n → BQ (pV s1 s2) n q → (∀ j, j < n → j = 0 → q j = 0) → cR z n nc q pt qa cf cb → cRow w rl r → (PO z k ac ∨ (z = some k ∧ ac = k)) → px_W G mX2_relate (d + 2) 0 0 Q 0 0 36 [some (.ref 45), some (.ref a), some (.ref b), some (.int (px_b oM)), some (.int (px_b oN)), some (.int (nI ac)), x6, x7, x8, x9, x10] [] (cH ph nc rl qa cf cb r) := by
    intro K
    induction K with
    | zero => intro k n nc ac q pt oM oN w z rl qa cf cb r x6 x7 x8 x9 x10 h; cases h
    | succ K ihK =>
      intro k n nc ac q pt oM oN w z rl qa cf cb r x6 x7 x8 x9 x10 hm hkn hB h00 hR hrow hpo
      have hnc := cR_nc hB hR
      have hn624 := BQ_n hB
      -- the pair itself
      have self : ∀ (ac : Nat) (x6 x7 x8 x9 x10 : Option Value), PO z k ac → px_W G mX2_relate (d + 2) 0 0 Q 0 0 36 [some (.ref 45), some (.ref a), some (.ref b), some (.int (px_b oM)), some (.int (px_b oN)), some (.int (nI ac)), x6, x7, x8, x9, x10] [] (cH ph nc rl qa cf cb r) := by
        intro ac x6 x7 x8 x9 x10 hpo
        unfold bS at hm
        by_cases hk : k < n
        · rw [if_pos hk] at hm
          obtain ⟨hac, hqa⟩ := PO_at hR hk hpo
          have hqk := hB.1 k hk
          have hV := hqk.2
          generalize hp0 : q k = p0 at hm hqa hqk hV
          generalize hL0 : pt k = L0 at hm
          generalize hTT : bE (pP nx1 nx2) p0 L0 24 0 n q pt = T at hm
          -- the events
          have evs : ∀ (m e n' nc' : Nat) (q' : Nat → Nat) (pt' : Nat → List Nat) (z' : Option Nat) (rl : Int32) (qa cf cb r : Nat → Int32) (oM oN : Bool) (w : Option (List Nat)) (x8 x9 : Int32), e + m = 24 → bE (pP nx1 nx2) p0 L0 m e n' q' pt' = T → bS (pP nx1 nx2) (fun p => pR en1 (p / 25)) (fun p => pR en2 (p % 25)) K (k + 1) T.1 T.2.1 T.2.2 oM oN w = some (oMF, oNF, wF) → k < n' → q' k = p0 → pt' k = L0 → BQ (pV s1 s2) n' q' → (∀ j, j < n' → j = 0 → q' j = 0) → cR z' n' nc' q' pt' qa cf cb → cRow w rl r → PO z' k ac → px_W G mX2_relate (d + 2) 0 0 Q 0 0 197 [some (.ref 45), some (.ref a), some (.ref b), some (.int (px_b oM)), some (.int (px_b oN)), some (.int (nI ac)), some (.int (nI (p0 / 25))), some (.int (nI (p0 % 25))), some (.int x8), some (.int x9), some (.int (nI e))] [] (cH ph nc' rl qa cf cb r) := by
            intro m
            induction m with
            | zero =>
              intro e n' nc' q' pt' z' rl qa cf cb r oM oN w x8 x9 he hbe hm hk hq' hpt' hB h00 hR hrow hpo
              have he24 : e = 24 := by omega
              subst he24
              have hbe : (n', q', pt') = T := hbe
              subst hbe
              have hac := PO_at hR hk hpo
              have hnc := cR_nc hB hR
              have hnx : PO z' (k + 1) (ac + 1) ∨ (z' = some (k + 1) ∧ ac + 1 = k + 1) := by
                cases z' with
                | none =>
                  have hpo : ac = k := hpo
                  exact Or.inl (by show ac + 1 = k + 1; omega)
                | some z0 =>
                  rcases hpo with ⟨u1, u2⟩ | ⟨u1, u2⟩
                  · by_cases hz : z0 = k + 1
                    · subst hz; exact Or.inr ⟨rfl, by omega⟩
                    · exact Or.inl (Or.inl ⟨by omega, by omega⟩)
                  · exact Or.inl (Or.inr ⟨by omega, by omega⟩)
              have hih := ihK (k + 1) n' nc' (ac + 1) q' pt' oM oN w z' rl qa cf cb r (some (.int (nI (p0 / 25)))) (some (.int (nI (p0 % 25)))) (some (.int x8)) (some (.int x9)) (some (.int (nI 24))) hm (by omega) hB h00 hR hrow hnx
              have hac1 := hac.1
              (repeat (first | (exact hih) | (refine px_st rfl rfl ?_; simp only [px_wp, px_at, px_set, px_set2, px_clr, px_ldi, px_ldl, px_lda, px_i1, px_i2, px_l1, px_l2, px_il, px_a1, px_r1, px_r2, px_ir, px_vir, px_g, px_v1, px_v2, px_gf, px_pf, px_ps, px_ar, px_nth, px_upd, px_zero, px_dfl, px_put_self, px_put_ne, px_sw, nI_add, pk_mul, true_and, and_true, Nat.reduceAdd, Nat.reduceLT, Nat.reduceEqDiff, List.length_cons, List.length_nil, true_or, or_true, List.set_set, ne_eq, not_false_eq_true, Fin.isValue, Fin.val_zero, Fin.val_one, Fin.val_two, reduceCtorEq, Option.map_some, List.length_set, Nat.zero_lt_succ, Option.toList_some, Option.toList_none, List.cons_append, List.nil_append, px_b_2, IA, LA, BA, ZA, QA, PT, DR, TL, MC, CD, CC, false_and, or_false, false_or, nar_b, nar_0, nar_1, nar_y]) | (refine ⟨_, rfl, by omega, ?_⟩) | (refine ⟨fun h => absurd h (nI_nlt (by omega) (by omega)), fun _ => ?_⟩) | (refine ⟨fun _ => ?_, fun h => absurd h (nI_nlt (by omega) (by omega))⟩) | (refine ⟨fun h => absurd (nI_lt (by omega) (by omega)) h, fun _ => ?_⟩) | (refine ⟨fun _ => ?_, fun h => absurd (nI_lt (by omega) (by omega)) h⟩) | (refine ⟨fun h => absurd ((nI_eq (by omega) (by omega)).mp h) (by omega), fun _ => ?_⟩) | (refine ⟨fun _ => ?_, fun h => absurd ((nI_eq (by omega) (by omega)).mp h) (by omega)⟩) | (refine ⟨fun h => absurd h (by decide), fun _ => ?_⟩) | (refine ⟨fun _ => ?_, fun h => absurd h (by decide)⟩) | (refine ⟨fun h => absurd rfl h, fun _ => ?_⟩) | (refine ⟨fun _ => ?_, fun h => absurd rfl h⟩)))
            | succ m ihm =>
              intro e n' nc' q' pt' z' rl qa cf cb r oM oN w x8 x9 he hbe hm hk hq' hpt' hB h00 hR hrow hpo
              have hac := PO_at hR hk hpo
              have hac1 := hac.1
              have hac2 := hac.2
              rw [hq'] at hac2
              have hnc := cR_nc hB hR
              obtain ⟨c45, c46, c47, c48, c49⟩ := gt (c := nc') (rl := rl) (qa := qa) (cf := cf) (cb := cb) (r := r)
              have hge := ge (c := nc') (rl := rl) (qa := qa) (cf := cf) (cb := cb) (r := r)
              (repeat (first | (refine px_st rfl rfl ?_; simp only [px_wp, px_at, px_set, px_set2, px_clr, px_ldi, px_ldl, px_lda, px_i1, px_i2, px_l1, px_l2, px_il, px_a1, px_r1, px_r2, px_ir, px_vir, px_g, px_v1, px_v2, px_gf, px_pf, px_ps, px_ar, px_nth, px_upd, px_zero, px_dfl, px_put_self, px_put_ne, px_sw, nI_add, pk_mul, true_and, and_true, Nat.reduceAdd, Nat.reduceLT, Nat.reduceEqDiff, List.length_cons, List.length_nil, true_or, or_true, List.set_set, ne_eq, not_false_eq_true, Fin.isValue, Fin.val_zero, Fin.val_one, Fin.val_two, reduceCtorEq, Option.map_some, List.length_set, Nat.zero_lt_succ, Option.toList_some, Option.toList_none, List.cons_append, List.nil_append, px_b_2, IA, LA, BA, ZA, QA, PT, DR, TL, MC, CD, CC, false_and, or_false, false_or, nar_b, nar_0, nar_1, nar_y]) | (refine ⟨_, rfl, by omega, ?_⟩) | (refine ⟨fun h => absurd h (nI_nlt (by omega) (by omega)), fun _ => ?_⟩) | (refine ⟨fun _ => ?_, fun h => absurd h (nI_nlt (by omega) (by omega))⟩) | (refine ⟨fun h => absurd (nI_lt (by omega) (by omega)) h, fun _ => ?_⟩) | (refine ⟨fun _ => ?_, fun h => absurd (nI_lt (by omega) (by omega)) h⟩) | (refine ⟨fun h => absurd ((nI_eq (by omega) (by omega)).mp h) (by omega), fun _ => ?_⟩) | (refine ⟨fun _ => ?_, fun h => absurd ((nI_eq (by omega) (by omega)).mp h) (by omega)⟩) | (refine ⟨fun h => absurd h (by decide), fun _ => ?_⟩) | (refine ⟨fun _ => ?_, fun h => absurd h (by decide)⟩) | (refine ⟨fun h => absurd rfl h, fun _ => ?_⟩) | (refine ⟨fun _ => ?_, fun h => absurd rfl h⟩)))
              refine px_cS rfl rfl kX2_pairBehind rfl (c_X_pairBehind (d := d) hs1.2 hs2.2 hn1 hn2 ((hge a (by omega)).trans ha) ((hge b (by omega)).trans hb) ((hge p1 (by omega)).trans hp1) ((hge p2 (by omega)).trans hp2) hf1 hf2 hV.1 hV.2 (show e < 24 by omega) ?_) (Nat.le_refl _) rfl rfl (Nat.le_of_ble_eq_true rfl) (Nat.zero_le _) (Nat.zero_le _)
              have hpe := hPV p0 hV e (by omega)
              rw [show led nx1 (p0 / 25) e * 25 + led nx2 (p0 % 25) e = pP nx1 nx2 p0 e from rfl]
              generalize hto : pP nx1 nx2 p0 e = to at hpe
              unfold bE at hbe
              rw [hto] at hbe
              (repeat (first | (refine px_st rfl rfl ?_; simp only [px_wp, px_at, px_set, px_set2, px_clr, px_ldi, px_ldl, px_lda, px_i1, px_i2, px_l1, px_l2, px_il, px_a1, px_r1, px_r2, px_ir, px_vir, px_g, px_v1, px_v2, px_gf, px_pf, px_ps, px_ar, px_nth, px_upd, px_zero, px_dfl, px_put_self, px_put_ne, px_sw, nI_add, pk_mul, true_and, and_true, Nat.reduceAdd, Nat.reduceLT, Nat.reduceEqDiff, List.length_cons, List.length_nil, true_or, or_true, List.set_set, ne_eq, not_false_eq_true, Fin.isValue, Fin.val_zero, Fin.val_one, Fin.val_two, reduceCtorEq, Option.map_some, List.length_set, Nat.zero_lt_succ, Option.toList_some, Option.toList_none, List.cons_append, List.nil_append, px_b_2, IA, LA, BA, ZA, QA, PT, DR, TL, MC, CD, CC, false_and, or_false, false_or, nar_b, nar_0, nar_1, nar_y, c45, c46, hac2]) | (refine ⟨_, rfl, by omega, ?_⟩) | (refine ⟨fun h => absurd h (nI_nlt (by omega) (by omega)), fun _ => ?_⟩) | (refine ⟨fun _ => ?_, fun h => absurd h (nI_nlt (by omega) (by omega))⟩) | (refine ⟨fun h => absurd (nI_lt (by omega) (by omega)) h, fun _ => ?_⟩) | (refine ⟨fun _ => ?_, fun h => absurd (nI_lt (by omega) (by omega)) h⟩) | (refine ⟨fun h => absurd ((nI_eq (by omega) (by omega)).mp h) (by omega), fun _ => ?_⟩) | (refine ⟨fun _ => ?_, fun h => absurd ((nI_eq (by omega) (by omega)).mp h) (by omega)⟩) | (refine ⟨fun h => absurd h (by decide), fun _ => ?_⟩) | (refine ⟨fun _ => ?_, fun h => absurd h (by decide)⟩) | (refine ⟨fun h => absurd rfl h, fun _ => ?_⟩) | (refine ⟨fun _ => ?_, fun h => absurd rfl h⟩)))
              refine px_cV rfl rfl kX2_reach rfl (c_X_reach hpe.1 c45 c46 c47 c48 (fun hcf => ?_) (fun hcf => ?_)) (Nat.le_refl _) c45 rfl rfl rfl (Nat.le_of_ble_eq_true rfl) (Nat.zero_le _) (Nat.zero_le _)
              · -- met before, or the broken pair
                have hskip : (mtB q' n' to || decide (to = 624)) = true := by
                  cases hmt : mtB q' n' to with
                  | true => rfl
                  | false =>
                    by_cases h6 : to = 624
                    · rw [decide_eq_true h6]; rfl
                    · exact absurd (hR.2.1 to (by omega) hmt) hcf
                rw [hskip, if_pos rfl] at hbe
                (repeat (first | (exact ihm (e + 1) n' nc' q' pt' z' rl qa cf cb r oM oN w x8 x9 (by omega) hbe hm hk hq' hpt' hB h00 hR hrow hpo) | (refine px_st rfl rfl ?_; simp only [px_wp, px_at, px_set, px_set2, px_clr, px_ldi, px_ldl, px_lda, px_i1, px_i2, px_l1, px_l2, px_il, px_a1, px_r1, px_r2, px_ir, px_vir, px_g, px_v1, px_v2, px_gf, px_pf, px_ps, px_ar, px_nth, px_upd, px_zero, px_dfl, px_put_self, px_put_ne, px_sw, nI_add, pk_mul, true_and, and_true, Nat.reduceAdd, Nat.reduceLT, Nat.reduceEqDiff, List.length_cons, List.length_nil, true_or, or_true, List.set_set, ne_eq, not_false_eq_true, Fin.isValue, Fin.val_zero, Fin.val_one, Fin.val_two, reduceCtorEq, Option.map_some, List.length_set, Nat.zero_lt_succ, Option.toList_some, Option.toList_none, List.cons_append, List.nil_append, px_b_2, IA, LA, BA, ZA, QA, PT, DR, TL, MC, CD, CC, false_and, or_false, false_or, nar_b, nar_0, nar_1, nar_y]) | (refine ⟨_, rfl, by omega, ?_⟩) | (refine ⟨fun h => absurd h (nI_nlt (by omega) (by omega)), fun _ => ?_⟩) | (refine ⟨fun _ => ?_, fun h => absurd h (nI_nlt (by omega) (by omega))⟩) | (refine ⟨fun h => absurd (nI_lt (by omega) (by omega)) h, fun _ => ?_⟩) | (refine ⟨fun _ => ?_, fun h => absurd (nI_lt (by omega) (by omega)) h⟩) | (refine ⟨fun h => absurd ((nI_eq (by omega) (by omega)).mp h) (by omega), fun _ => ?_⟩) | (refine ⟨fun _ => ?_, fun h => absurd ((nI_eq (by omega) (by omega)).mp h) (by omega)⟩) | (refine ⟨fun h => absurd h (by decide), fun _ => ?_⟩) | (refine ⟨fun _ => ?_, fun h => absurd h (by decide)⟩) | (refine ⟨fun h => absurd rfl h, fun _ => ?_⟩) | (refine ⟨fun _ => ?_, fun h => absurd rfl h⟩)))
              · by_cases h6 : to = 624
                · subst h6
                  cases z' with
                  | some z0 => exact absurd hcf hR.2.2.2.2.2.2.2.2
                  | none =>
                    have hz := hR.2.2.2
                    have hnc' : nc' = n' := hz.1
                    rw [decide_eq_true rfl, Bool.or_true, if_pos rfl] at hbe
                    have hR' := cR_624 (e := e) hB hk hR
                    rw [hq'] at hR'
                    have hn6 := BQ_n hB
                    refine ⟨by omega, ?_⟩
                    have hpo' : PO (some n') k ac := by
                      have hpo : ac = k := hpo
                      exact Or.inl ⟨hpo, hk⟩
                    have hnxt := ihm (e + 1) n' (nc' + 1) q' pt' (some n') rl _ _ _ r oM oN w x8 x9 (by omega) hbe hm hk hq' hpt' hB h00 hR' hrow hpo'
                    (repeat (first | (exact hnxt) | (refine px_st rfl rfl ?_; simp only [px_wp, px_at, px_set, px_set2, px_clr, px_ldi, px_ldl, px_lda, px_i1, px_i2, px_l1, px_l2, px_il, px_a1, px_r1, px_r2, px_ir, px_vir, px_g, px_v1, px_v2, px_gf, px_pf, px_ps, px_ar, px_nth, px_upd, px_zero, px_dfl, px_put_self, px_put_ne, px_sw, nI_add, pk_mul, true_and, and_true, Nat.reduceAdd, Nat.reduceLT, Nat.reduceEqDiff, List.length_cons, List.length_nil, true_or, or_true, List.set_set, ne_eq, not_false_eq_true, Fin.isValue, Fin.val_zero, Fin.val_one, Fin.val_two, reduceCtorEq, Option.map_some, List.length_set, Nat.zero_lt_succ, Option.toList_some, Option.toList_none, List.cons_append, List.nil_append, px_b_2, IA, LA, BA, ZA, QA, PT, DR, TL, MC, CD, CC, false_and, or_false, false_or, nar_b, nar_0, nar_1, nar_y]) | (refine ⟨_, rfl, by omega, ?_⟩) | (refine ⟨fun h => absurd h (nI_nlt (by omega) (by omega)), fun _ => ?_⟩) | (refine ⟨fun _ => ?_, fun h => absurd h (nI_nlt (by omega) (by omega))⟩) | (refine ⟨fun h => absurd (nI_lt (by omega) (by omega)) h, fun _ => ?_⟩) | (refine ⟨fun _ => ?_, fun h => absurd (nI_lt (by omega) (by omega)) h⟩) | (refine ⟨fun h => absurd ((nI_eq (by omega) (by omega)).mp h) (by omega), fun _ => ?_⟩) | (refine ⟨fun _ => ?_, fun h => absurd ((nI_eq (by omega) (by omega)).mp h) (by omega)⟩) | (refine ⟨fun h => absurd h (by decide), fun _ => ?_⟩) | (refine ⟨fun _ => ?_, fun h => absurd h (by decide)⟩) | (refine ⟨fun h => absurd rfl h, fun _ => ?_⟩) | (refine ⟨fun _ => ?_, fun h => absurd rfl h⟩)))
                · have hmt : mtB q' n' to = false := by
                    cases hmt : mtB q' n' to with
                    | false => rfl
                    | true =>
                      obtain ⟨j, hj, hjq⟩ := (mtB_iff n').mp hmt
                      rw [← hjq] at hcf
                      exact absurd hcf (hR.2.2.1 j hj)
                  have ht : to < 624 := by omega
                  rw [hmt, Bool.false_or, if_neg (by simpa using h6)] at hbe
                  have hR' := cR_new (e := e) hB hk h00 ht hmt hR
                  rw [hq', hpt'] at hR'
                  refine ⟨cR_nc1 hB hR ht hpe.2 hmt, ?_⟩
                  have hnxt := ihm (e + 1) (n' + 1) (nc' + 1) (va_up q' n' to) (va_up pt' n' (e :: L0)) z' rl _ _ _ r oM oN w x8 x9 (by omega) hbe hm (by omega) (by rw [va_up_n (by omega)]; exact hq') (by rw [va_up_n (by omega)]; exact hpt') (BQ_add hB ht hpe.2 hmt) (fun j hj hj0 => by rw [va_up_n (by omega)]; exact h00 j (by omega) hj0) hR' hrow hpo
                  (repeat (first | (exact hnxt) | (refine px_st rfl rfl ?_; simp only [px_wp, px_at, px_set, px_set2, px_clr, px_ldi, px_ldl, px_lda, px_i1, px_i2, px_l1, px_l2, px_il, px_a1, px_r1, px_r2, px_ir, px_vir, px_g, px_v1, px_v2, px_gf, px_pf, px_ps, px_ar, px_nth, px_upd, px_zero, px_dfl, px_put_self, px_put_ne, px_sw, nI_add, pk_mul, true_and, and_true, Nat.reduceAdd, Nat.reduceLT, Nat.reduceEqDiff, List.length_cons, List.length_nil, true_or, or_true, List.set_set, ne_eq, not_false_eq_true, Fin.isValue, Fin.val_zero, Fin.val_one, Fin.val_two, reduceCtorEq, Option.map_some, List.length_set, Nat.zero_lt_succ, Option.toList_some, Option.toList_none, List.cons_append, List.nil_append, px_b_2, IA, LA, BA, ZA, QA, PT, DR, TL, MC, CD, CC, false_and, or_false, false_or, nar_b, nar_0, nar_1, nar_y]) | (refine ⟨_, rfl, by omega, ?_⟩) | (refine ⟨fun h => absurd h (nI_nlt (by omega) (by omega)), fun _ => ?_⟩) | (refine ⟨fun _ => ?_, fun h => absurd h (nI_nlt (by omega) (by omega))⟩) | (refine ⟨fun h => absurd (nI_lt (by omega) (by omega)) h, fun _ => ?_⟩) | (refine ⟨fun _ => ?_, fun h => absurd (nI_lt (by omega) (by omega)) h⟩) | (refine ⟨fun h => absurd ((nI_eq (by omega) (by omega)).mp h) (by omega), fun _ => ?_⟩) | (refine ⟨fun _ => ?_, fun h => absurd ((nI_eq (by omega) (by omega)).mp h) (by omega)⟩) | (refine ⟨fun h => absurd h (by decide), fun _ => ?_⟩) | (refine ⟨fun _ => ?_, fun h => absurd h (by decide)⟩) | (refine ⟨fun h => absurd rfl h, fun _ => ?_⟩) | (refine ⟨fun _ => ?_, fun h => absurd rfl h⟩)))
          -- the flags
          have flags : ∀ (i1 i2 : Bool) (rl : Int32) (r : Nat → Int32) (w : Option (List Nat)), bS (pP nx1 nx2) (fun p => pR en1 (p / 25)) (fun p => pR en2 (p % 25)) K (k + 1) T.1 T.2.1 T.2.2 (oM || (i1 && !i2)) (oN || (i2 && !i1)) w = some (oMF, oNF, wF) → cRow w rl r → px_W G mX2_relate (d + 2) 0 0 Q 0 0 152 [some (.ref 45), some (.ref a), some (.ref b), some (.int (px_b oM)), some (.int (px_b oN)), some (.int (nI ac)), some (.int (nI (p0 / 25))), some (.int (nI (p0 % 25))), some (.int (px_b i1)), some (.int (px_b i2)), x10] [] (cH ph nc rl qa cf cb r) := by
            intro i1 i2 rl r w hm hrow
            have hev := evs 24 0 n nc q pt z rl qa cf cb r (oM || (i1 && !i2)) (oN || (i2 && !i1)) w (px_b i1) (px_b i2) rfl hTT hm hk hp0 hL0 hB h00 hR hrow hpo
            cases oM <;> cases oN <;> cases i1 <;> cases i2 <;> ((repeat (first | (exact hev) | (refine px_st rfl rfl ?_; simp only [px_wp, px_at, px_set, px_set2, px_clr, px_ldi, px_ldl, px_lda, px_i1, px_i2, px_l1, px_l2, px_il, px_a1, px_r1, px_r2, px_ir, px_vir, px_g, px_v1, px_v2, px_gf, px_pf, px_ps, px_ar, px_nth, px_upd, px_zero, px_dfl, px_put_self, px_put_ne, px_sw, nI_add, pk_mul, true_and, and_true, Nat.reduceAdd, Nat.reduceLT, Nat.reduceEqDiff, List.length_cons, List.length_nil, true_or, or_true, List.set_set, ne_eq, not_false_eq_true, Fin.isValue, Fin.val_zero, Fin.val_one, Fin.val_two, reduceCtorEq, Option.map_some, List.length_set, Nat.zero_lt_succ, Option.toList_some, Option.toList_none, List.cons_append, List.nil_append, px_b_2, IA, LA, BA, ZA, QA, PT, DR, TL, MC, CD, CC, false_and, or_false, false_or, nar_b, nar_0, nar_1, nar_y]) | (refine ⟨_, rfl, by omega, ?_⟩) | (refine ⟨fun h => absurd h (nI_nlt (by omega) (by omega)), fun _ => ?_⟩) | (refine ⟨fun _ => ?_, fun h => absurd h (nI_nlt (by omega) (by omega))⟩) | (refine ⟨fun h => absurd (nI_lt (by omega) (by omega)) h, fun _ => ?_⟩) | (refine ⟨fun _ => ?_, fun h => absurd (nI_lt (by omega) (by omega)) h⟩) | (refine ⟨fun h => absurd ((nI_eq (by omega) (by omega)).mp h) (by omega), fun _ => ?_⟩) | (refine ⟨fun _ => ?_, fun h => absurd ((nI_eq (by omega) (by omega)).mp h) (by omega)⟩) | (refine ⟨fun h => absurd h (by decide), fun _ => ?_⟩) | (refine ⟨fun _ => ?_, fun h => absurd h (by decide)⟩) | (refine ⟨fun h => absurd rfl h, fun _ => ?_⟩) | (refine ⟨fun _ => ?_, fun h => absurd rfl h⟩))))
          -- telling the row
          have tell : ∀ (i1 i2 : Bool), i1 = pR en1 (p0 / 25) → i2 = pR en2 (p0 % 25) → px_W G mX2_relate (d + 2) 0 0 Q 0 0 125 [some (.ref 45), some (.ref a), some (.ref b), some (.int (px_b oM)), some (.int (px_b oN)), some (.int (nI ac)), some (.int (nI (p0 / 25))), some (.int (nI (p0 % 25))), some (.int (px_b i1)), some (.int (px_b i2)), x10] [] (cH ph nc rl qa cf cb r) := by
            intro i1 i2 e1 e2
            rw [← e1, ← e2] at hm
            obtain ⟨c45, c46, c47, c48, c49⟩ := gt (c := nc) (rl := rl) (qa := qa) (cf := cf) (cb := cb) (r := r)
            by_cases hi : i1 = i2
            · have hw : nwS w (i1 == i2) L0 = w := by
                subst hi
                cases w with
                | none => unfold nwS; simp
                | some L => rfl
              rw [hw] at hm
              have hfl := flags i1 i2 rl r w hm hrow
              rw [hi] at hfl ⊢
              (repeat (first | (exact hfl) | (refine px_st rfl rfl ?_; simp only [px_wp, px_at, px_set, px_set2, px_clr, px_ldi, px_ldl, px_lda, px_i1, px_i2, px_l1, px_l2, px_il, px_a1, px_r1, px_r2, px_ir, px_vir, px_g, px_v1, px_v2, px_gf, px_pf, px_ps, px_ar, px_nth, px_upd, px_zero, px_dfl, px_put_self, px_put_ne, px_sw, nI_add, pk_mul, true_and, and_true, Nat.reduceAdd, Nat.reduceLT, Nat.reduceEqDiff, List.length_cons, List.length_nil, true_or, or_true, List.set_set, ne_eq, not_false_eq_true, Fin.isValue, Fin.val_zero, Fin.val_one, Fin.val_two, reduceCtorEq, Option.map_some, List.length_set, Nat.zero_lt_succ, Option.toList_some, Option.toList_none, List.cons_append, List.nil_append, px_b_2, IA, LA, BA, ZA, QA, PT, DR, TL, MC, CD, CC, false_and, or_false, false_or, nar_b, nar_0, nar_1, nar_y]) | (refine ⟨_, rfl, by omega, ?_⟩) | (refine ⟨fun h => absurd h (nI_nlt (by omega) (by omega)), fun _ => ?_⟩) | (refine ⟨fun _ => ?_, fun h => absurd h (nI_nlt (by omega) (by omega))⟩) | (refine ⟨fun h => absurd (nI_lt (by omega) (by omega)) h, fun _ => ?_⟩) | (refine ⟨fun _ => ?_, fun h => absurd (nI_lt (by omega) (by omega)) h⟩) | (refine ⟨fun h => absurd ((nI_eq (by omega) (by omega)).mp h) (by omega), fun _ => ?_⟩) | (refine ⟨fun _ => ?_, fun h => absurd ((nI_eq (by omega) (by omega)).mp h) (by omega)⟩) | (refine ⟨fun h => absurd h (by decide), fun _ => ?_⟩) | (refine ⟨fun _ => ?_, fun h => absurd h (by decide)⟩) | (refine ⟨fun h => absurd rfl h, fun _ => ?_⟩) | (refine ⟨fun _ => ?_, fun h => absurd rfl h⟩)))
            · have hne : ¬ px_b i1 = px_b i2 := by
                cases i1 <;> cases i2 <;> first | exact absurd rfl hi | decide
              cases w with
              | some L =>
                have hfl := flags i1 i2 rl r (some L) hm hrow
                have hr1 : rl = nI L.length := hrow.1
                have hL := (hrow.2 L rfl).1
                have hr2 : ¬ rl = -2 := by rw [hr1]; exact nI_n2 (by omega)
                (repeat (first | (first | exact hfl | refine ⟨fun q => absurd q hne, fun _ => ?_⟩ | refine ⟨fun _ => ?_, fun q => absurd q hr2⟩) | (refine px_st rfl rfl ?_; simp only [px_wp, px_at, px_set, px_set2, px_clr, px_ldi, px_ldl, px_lda, px_i1, px_i2, px_l1, px_l2, px_il, px_a1, px_r1, px_r2, px_ir, px_vir, px_g, px_v1, px_v2, px_gf, px_pf, px_ps, px_ar, px_nth, px_upd, px_zero, px_dfl, px_put_self, px_put_ne, px_sw, nI_add, pk_mul, true_and, and_true, Nat.reduceAdd, Nat.reduceLT, Nat.reduceEqDiff, List.length_cons, List.length_nil, true_or, or_true, List.set_set, ne_eq, not_false_eq_true, Fin.isValue, Fin.val_zero, Fin.val_one, Fin.val_two, reduceCtorEq, Option.map_some, List.length_set, Nat.zero_lt_succ, Option.toList_some, Option.toList_none, List.cons_append, List.nil_append, px_b_2, IA, LA, BA, ZA, QA, PT, DR, TL, MC, CD, CC, false_and, or_false, false_or, nar_b, nar_0, nar_1, nar_y, c45]) | (refine ⟨_, rfl, by omega, ?_⟩) | (refine ⟨fun h => absurd h (nI_nlt (by omega) (by omega)), fun _ => ?_⟩) | (refine ⟨fun _ => ?_, fun h => absurd h (nI_nlt (by omega) (by omega))⟩) | (refine ⟨fun h => absurd (nI_lt (by omega) (by omega)) h, fun _ => ?_⟩) | (refine ⟨fun _ => ?_, fun h => absurd (nI_lt (by omega) (by omega)) h⟩) | (refine ⟨fun h => absurd ((nI_eq (by omega) (by omega)).mp h) (by omega), fun _ => ?_⟩) | (refine ⟨fun _ => ?_, fun h => absurd ((nI_eq (by omega) (by omega)).mp h) (by omega)⟩) | (refine ⟨fun h => absurd h (by decide), fun _ => ?_⟩) | (refine ⟨fun _ => ?_, fun h => absurd h (by decide)⟩) | (refine ⟨fun h => absurd rfl h, fun _ => ?_⟩) | (refine ⟨fun _ => ?_, fun h => absurd rfl h⟩)))
              | none =>
                have hr1 : rl = -2 := hrow.1
                have hw : nwS none (i1 == i2) L0 = some L0 := by
                  cases i1 <;> cases i2 <;> first | exact absurd rfl hi | rfl
                rw [hw] at hm
                (repeat (first | (first | refine ⟨fun q => absurd q hne, fun _ => ?_⟩ | refine ⟨fun q => absurd hr1 q, fun _ => ?_⟩) | (refine px_st rfl rfl ?_; simp only [px_wp, px_at, px_set, px_set2, px_clr, px_ldi, px_ldl, px_lda, px_i1, px_i2, px_l1, px_l2, px_il, px_a1, px_r1, px_r2, px_ir, px_vir, px_g, px_v1, px_v2, px_gf, px_pf, px_ps, px_ar, px_nth, px_upd, px_zero, px_dfl, px_put_self, px_put_ne, px_sw, nI_add, pk_mul, true_and, and_true, Nat.reduceAdd, Nat.reduceLT, Nat.reduceEqDiff, List.length_cons, List.length_nil, true_or, or_true, List.set_set, ne_eq, not_false_eq_true, Fin.isValue, Fin.val_zero, Fin.val_one, Fin.val_two, reduceCtorEq, Option.map_some, List.length_set, Nat.zero_lt_succ, Option.toList_some, Option.toList_none, List.cons_append, List.nil_append, px_b_2, IA, LA, BA, ZA, QA, PT, DR, TL, MC, CD, CC, false_and, or_false, false_or, nar_b, nar_0, nar_1, nar_y, c45, c46, hqa]) | (refine ⟨_, rfl, by omega, ?_⟩) | (refine ⟨fun h => absurd h (nI_nlt (by omega) (by omega)), fun _ => ?_⟩) | (refine ⟨fun _ => ?_, fun h => absurd h (nI_nlt (by omega) (by omega))⟩) | (refine ⟨fun h => absurd (nI_lt (by omega) (by omega)) h, fun _ => ?_⟩) | (refine ⟨fun _ => ?_, fun h => absurd (nI_lt (by omega) (by omega)) h⟩) | (refine ⟨fun h => absurd ((nI_eq (by omega) (by omega)).mp h) (by omega), fun _ => ?_⟩) | (refine ⟨fun _ => ?_, fun h => absurd ((nI_eq (by omega) (by omega)).mp h) (by omega)⟩) | (refine ⟨fun h => absurd h (by decide), fun _ => ?_⟩) | (refine ⟨fun _ => ?_, fun h => absurd h (by decide)⟩) | (refine ⟨fun h => absurd rfl h, fun _ => ?_⟩) | (refine ⟨fun _ => ?_, fun h => absurd rfl h⟩)))
                rw [hqa, ← hp0]
                refine px_cV rfl rfl kX2_tellRow rfl (c_X_tellRow hn624 (fun j hj => (hB.1 j hj).1) hk hR.1 c45 c47 c48 c49 (fun r' hr' => ?_)) (Nat.le_refl _) c45 rfl rfl rfl (Nat.le_of_ble_eq_true rfl) (Nat.zero_le _) (Nat.zero_le _)
                rw [hp0]
                rw [hL0] at hr' ⊢
                have hlen := cPth_len hR.1 k k (Nat.le_refl _) hk
                rw [hL0] at hlen
                have hfl := flags i1 i2 (nI L0.length) r' (some L0) hm ⟨rfl, fun L hL => by cases hL; exact ⟨by omega, hr'⟩⟩
                have eh : ((cH ph nc rl qa cf cb r).set 45 (CM nc (nI L0.length))).set 49 (IA 625 r') = cH ph nc (nI L0.length) qa cf cb r' := by
                  simp only [px_sw, Nat.reduceAdd, Nat.reduceLT, List.set_set]
                rw [eh]
                exact hfl
          obtain ⟨c45, c46, c47, c48, c49⟩ := gt (c := nc) (rl := rl) (qa := qa) (cf := cf) (cb := cb) (r := r)
          have hge := ge (c := nc) (rl := rl) (qa := qa) (cf := cf) (cb := cb) (r := r)
          have hd25 : nI p0 / nI 25 = nI (p0 / 25) := pk_div (by omega) (by omega) (by omega)
          have hr25 : nI p0 - nI (p0 / 25 * 25) = nI (p0 % 25) := by rw [← pk_mul, ← hd25]; exact pk_rem (by omega) (by omega) (by omega)
          -- whether the second is an end
          have second : ∀ (i1 : Bool), i1 = pR en1 (p0 / 25) → px_W G mX2_relate (d + 2) 0 0 Q 0 0 102 [some (.ref 45), some (.ref a), some (.ref b), some (.int (px_b oM)), some (.int (px_b oN)), some (.int (nI ac)), some (.int (nI (p0 / 25))), some (.int (nI (p0 % 25))), some (.int (px_b i1)), x9, x10] [] (cH ph nc rl qa cf cb r) := by
            intro i1 e1
            by_cases h24 : p0 % 25 = 24
            · have ht := tell i1 false e1 (by unfold pR; rw [h24]; rfl)
              rw [h24] at ht ⊢
              (repeat (first | (exact ht) | (refine px_st rfl rfl ?_; simp only [px_wp, px_at, px_set, px_set2, px_clr, px_ldi, px_ldl, px_lda, px_i1, px_i2, px_l1, px_l2, px_il, px_a1, px_r1, px_r2, px_ir, px_vir, px_g, px_v1, px_v2, px_gf, px_pf, px_ps, px_ar, px_nth, px_upd, px_zero, px_dfl, px_put_self, px_put_ne, px_sw, nI_add, pk_mul, true_and, and_true, Nat.reduceAdd, Nat.reduceLT, Nat.reduceEqDiff, List.length_cons, List.length_nil, true_or, or_true, List.set_set, ne_eq, not_false_eq_true, Fin.isValue, Fin.val_zero, Fin.val_one, Fin.val_two, reduceCtorEq, Option.map_some, List.length_set, Nat.zero_lt_succ, Option.toList_some, Option.toList_none, List.cons_append, List.nil_append, px_b_2, IA, LA, BA, ZA, QA, PT, DR, TL, MC, CD, CC, false_and, or_false, false_or, nar_b, nar_0, nar_1, nar_y]) | (refine ⟨_, rfl, by omega, ?_⟩) | (refine ⟨fun h => absurd h (nI_nlt (by omega) (by omega)), fun _ => ?_⟩) | (refine ⟨fun _ => ?_, fun h => absurd h (nI_nlt (by omega) (by omega))⟩) | (refine ⟨fun h => absurd (nI_lt (by omega) (by omega)) h, fun _ => ?_⟩) | (refine ⟨fun _ => ?_, fun h => absurd (nI_lt (by omega) (by omega)) h⟩) | (refine ⟨fun h => absurd ((nI_eq (by omega) (by omega)).mp h) (by omega), fun _ => ?_⟩) | (refine ⟨fun _ => ?_, fun h => absurd ((nI_eq (by omega) (by omega)).mp h) (by omega)⟩) | (refine ⟨fun h => absurd h (by decide), fun _ => ?_⟩) | (refine ⟨fun _ => ?_, fun h => absurd h (by decide)⟩) | (refine ⟨fun h => absurd rfl h, fun _ => ?_⟩) | (refine ⟨fun _ => ?_, fun h => absurd rfl h⟩)))
            · have hr' : p0 % 25 < s2 := by have := hV.2; omega
              have hx : pR en2 (p0 % 25) = en2 (p0 % 25) := by unfold pR; rw [decide_eq_false h24]; rfl
              (repeat (first | (refine px_st rfl rfl ?_; simp only [px_wp, px_at, px_set, px_set2, px_clr, px_ldi, px_ldl, px_lda, px_i1, px_i2, px_l1, px_l2, px_il, px_a1, px_r1, px_r2, px_ir, px_vir, px_g, px_v1, px_v2, px_gf, px_pf, px_ps, px_ar, px_nth, px_upd, px_zero, px_dfl, px_put_self, px_put_ne, px_sw, nI_add, pk_mul, true_and, and_true, Nat.reduceAdd, Nat.reduceLT, Nat.reduceEqDiff, List.length_cons, List.length_nil, true_or, or_true, List.set_set, ne_eq, not_false_eq_true, Fin.isValue, Fin.val_zero, Fin.val_one, Fin.val_two, reduceCtorEq, Option.map_some, List.length_set, Nat.zero_lt_succ, Option.toList_some, Option.toList_none, List.cons_append, List.nil_append, px_b_2, IA, LA, BA, ZA, QA, PT, DR, TL, MC, CD, CC, false_and, or_false, false_or, nar_b, nar_0, nar_1, nar_y]) | (refine ⟨_, rfl, by omega, ?_⟩) | (refine ⟨fun h => absurd h (nI_nlt (by omega) (by omega)), fun _ => ?_⟩) | (refine ⟨fun _ => ?_, fun h => absurd h (nI_nlt (by omega) (by omega))⟩) | (refine ⟨fun h => absurd (nI_lt (by omega) (by omega)) h, fun _ => ?_⟩) | (refine ⟨fun _ => ?_, fun h => absurd (nI_lt (by omega) (by omega)) h⟩) | (refine ⟨fun h => absurd ((nI_eq (by omega) (by omega)).mp h) (by omega), fun _ => ?_⟩) | (refine ⟨fun _ => ?_, fun h => absurd ((nI_eq (by omega) (by omega)).mp h) (by omega)⟩) | (refine ⟨fun h => absurd h (by decide), fun _ => ?_⟩) | (refine ⟨fun _ => ?_, fun h => absurd h (by decide)⟩) | (refine ⟨fun h => absurd rfl h, fun _ => ?_⟩) | (refine ⟨fun _ => ?_, fun h => absurd rfl h⟩)))
              have hb' := (hge b (by omega)).trans hb
              refine px_cV rfl rfl kX6_isEnd rfl (c_M_isEnd hb' ((hge q2 (by omega)).trans hq2) hr' ?_) (Nat.le_refl _) hb' rfl rfl rfl (Nat.le_of_ble_eq_true rfl) (Nat.zero_le _) (Nat.zero_le _)
              rw [hg2 _ hr']
              cases hen : en2 (p0 % 25) with
              | false =>
                have ht := tell i1 false e1 (by rw [hx, hen])
                (repeat (first | (exact ht) | (refine px_st rfl rfl ?_; simp only [px_wp, px_at, px_set, px_set2, px_clr, px_ldi, px_ldl, px_lda, px_i1, px_i2, px_l1, px_l2, px_il, px_a1, px_r1, px_r2, px_ir, px_vir, px_g, px_v1, px_v2, px_gf, px_pf, px_ps, px_ar, px_nth, px_upd, px_zero, px_dfl, px_put_self, px_put_ne, px_sw, nI_add, pk_mul, true_and, and_true, Nat.reduceAdd, Nat.reduceLT, Nat.reduceEqDiff, List.length_cons, List.length_nil, true_or, or_true, List.set_set, ne_eq, not_false_eq_true, Fin.isValue, Fin.val_zero, Fin.val_one, Fin.val_two, reduceCtorEq, Option.map_some, List.length_set, Nat.zero_lt_succ, Option.toList_some, Option.toList_none, List.cons_append, List.nil_append, px_b_2, IA, LA, BA, ZA, QA, PT, DR, TL, MC, CD, CC, false_and, or_false, false_or, nar_b, nar_0, nar_1, nar_y]) | (refine ⟨_, rfl, by omega, ?_⟩) | (refine ⟨fun h => absurd h (nI_nlt (by omega) (by omega)), fun _ => ?_⟩) | (refine ⟨fun _ => ?_, fun h => absurd h (nI_nlt (by omega) (by omega))⟩) | (refine ⟨fun h => absurd (nI_lt (by omega) (by omega)) h, fun _ => ?_⟩) | (refine ⟨fun _ => ?_, fun h => absurd (nI_lt (by omega) (by omega)) h⟩) | (refine ⟨fun h => absurd ((nI_eq (by omega) (by omega)).mp h) (by omega), fun _ => ?_⟩) | (refine ⟨fun _ => ?_, fun h => absurd ((nI_eq (by omega) (by omega)).mp h) (by omega)⟩) | (refine ⟨fun h => absurd h (by decide), fun _ => ?_⟩) | (refine ⟨fun _ => ?_, fun h => absurd h (by decide)⟩) | (refine ⟨fun h => absurd rfl h, fun _ => ?_⟩) | (refine ⟨fun _ => ?_, fun h => absurd rfl h⟩)))
              | true =>
                have ht := tell i1 true e1 (by rw [hx, hen])
                (repeat (first | (exact ht) | (refine px_st rfl rfl ?_; simp only [px_wp, px_at, px_set, px_set2, px_clr, px_ldi, px_ldl, px_lda, px_i1, px_i2, px_l1, px_l2, px_il, px_a1, px_r1, px_r2, px_ir, px_vir, px_g, px_v1, px_v2, px_gf, px_pf, px_ps, px_ar, px_nth, px_upd, px_zero, px_dfl, px_put_self, px_put_ne, px_sw, nI_add, pk_mul, true_and, and_true, Nat.reduceAdd, Nat.reduceLT, Nat.reduceEqDiff, List.length_cons, List.length_nil, true_or, or_true, List.set_set, ne_eq, not_false_eq_true, Fin.isValue, Fin.val_zero, Fin.val_one, Fin.val_two, reduceCtorEq, Option.map_some, List.length_set, Nat.zero_lt_succ, Option.toList_some, Option.toList_none, List.cons_append, List.nil_append, px_b_2, IA, LA, BA, ZA, QA, PT, DR, TL, MC, CD, CC, false_and, or_false, false_or, nar_b, nar_0, nar_1, nar_y]) | (refine ⟨_, rfl, by omega, ?_⟩) | (refine ⟨fun h => absurd h (nI_nlt (by omega) (by omega)), fun _ => ?_⟩) | (refine ⟨fun _ => ?_, fun h => absurd h (nI_nlt (by omega) (by omega))⟩) | (refine ⟨fun h => absurd (nI_lt (by omega) (by omega)) h, fun _ => ?_⟩) | (refine ⟨fun _ => ?_, fun h => absurd (nI_lt (by omega) (by omega)) h⟩) | (refine ⟨fun h => absurd ((nI_eq (by omega) (by omega)).mp h) (by omega), fun _ => ?_⟩) | (refine ⟨fun _ => ?_, fun h => absurd ((nI_eq (by omega) (by omega)).mp h) (by omega)⟩) | (refine ⟨fun h => absurd h (by decide), fun _ => ?_⟩) | (refine ⟨fun _ => ?_, fun h => absurd h (by decide)⟩) | (refine ⟨fun h => absurd rfl h, fun _ => ?_⟩) | (refine ⟨fun _ => ?_, fun h => absurd rfl h⟩)))
          have first : px_W G mX2_relate (d + 2) 0 0 Q 0 0 79 [some (.ref 45), some (.ref a), some (.ref b), some (.int (px_b oM)), some (.int (px_b oN)), some (.int (nI ac)), some (.int (nI (p0 / 25))), some (.int (nI (p0 % 25))), x8, x9, x10] [] (cH ph nc rl qa cf cb r) := by
            by_cases h24 : p0 / 25 = 24
            · have ht := second false (by unfold pR; rw [h24]; rfl)
              rw [h24] at ht ⊢
              (repeat (first | (exact ht) | (refine px_st rfl rfl ?_; simp only [px_wp, px_at, px_set, px_set2, px_clr, px_ldi, px_ldl, px_lda, px_i1, px_i2, px_l1, px_l2, px_il, px_a1, px_r1, px_r2, px_ir, px_vir, px_g, px_v1, px_v2, px_gf, px_pf, px_ps, px_ar, px_nth, px_upd, px_zero, px_dfl, px_put_self, px_put_ne, px_sw, nI_add, pk_mul, true_and, and_true, Nat.reduceAdd, Nat.reduceLT, Nat.reduceEqDiff, List.length_cons, List.length_nil, true_or, or_true, List.set_set, ne_eq, not_false_eq_true, Fin.isValue, Fin.val_zero, Fin.val_one, Fin.val_two, reduceCtorEq, Option.map_some, List.length_set, Nat.zero_lt_succ, Option.toList_some, Option.toList_none, List.cons_append, List.nil_append, px_b_2, IA, LA, BA, ZA, QA, PT, DR, TL, MC, CD, CC, false_and, or_false, false_or, nar_b, nar_0, nar_1, nar_y]) | (refine ⟨_, rfl, by omega, ?_⟩) | (refine ⟨fun h => absurd h (nI_nlt (by omega) (by omega)), fun _ => ?_⟩) | (refine ⟨fun _ => ?_, fun h => absurd h (nI_nlt (by omega) (by omega))⟩) | (refine ⟨fun h => absurd (nI_lt (by omega) (by omega)) h, fun _ => ?_⟩) | (refine ⟨fun _ => ?_, fun h => absurd (nI_lt (by omega) (by omega)) h⟩) | (refine ⟨fun h => absurd ((nI_eq (by omega) (by omega)).mp h) (by omega), fun _ => ?_⟩) | (refine ⟨fun _ => ?_, fun h => absurd ((nI_eq (by omega) (by omega)).mp h) (by omega)⟩) | (refine ⟨fun h => absurd h (by decide), fun _ => ?_⟩) | (refine ⟨fun _ => ?_, fun h => absurd h (by decide)⟩) | (refine ⟨fun h => absurd rfl h, fun _ => ?_⟩) | (refine ⟨fun _ => ?_, fun h => absurd rfl h⟩)))
            · have hr' : p0 / 25 < s1 := by have := hV.1; omega
              have hx : pR en1 (p0 / 25) = en1 (p0 / 25) := by unfold pR; rw [decide_eq_false h24]; rfl
              (repeat (first | (refine px_st rfl rfl ?_; simp only [px_wp, px_at, px_set, px_set2, px_clr, px_ldi, px_ldl, px_lda, px_i1, px_i2, px_l1, px_l2, px_il, px_a1, px_r1, px_r2, px_ir, px_vir, px_g, px_v1, px_v2, px_gf, px_pf, px_ps, px_ar, px_nth, px_upd, px_zero, px_dfl, px_put_self, px_put_ne, px_sw, nI_add, pk_mul, true_and, and_true, Nat.reduceAdd, Nat.reduceLT, Nat.reduceEqDiff, List.length_cons, List.length_nil, true_or, or_true, List.set_set, ne_eq, not_false_eq_true, Fin.isValue, Fin.val_zero, Fin.val_one, Fin.val_two, reduceCtorEq, Option.map_some, List.length_set, Nat.zero_lt_succ, Option.toList_some, Option.toList_none, List.cons_append, List.nil_append, px_b_2, IA, LA, BA, ZA, QA, PT, DR, TL, MC, CD, CC, false_and, or_false, false_or, nar_b, nar_0, nar_1, nar_y]) | (refine ⟨_, rfl, by omega, ?_⟩) | (refine ⟨fun h => absurd h (nI_nlt (by omega) (by omega)), fun _ => ?_⟩) | (refine ⟨fun _ => ?_, fun h => absurd h (nI_nlt (by omega) (by omega))⟩) | (refine ⟨fun h => absurd (nI_lt (by omega) (by omega)) h, fun _ => ?_⟩) | (refine ⟨fun _ => ?_, fun h => absurd (nI_lt (by omega) (by omega)) h⟩) | (refine ⟨fun h => absurd ((nI_eq (by omega) (by omega)).mp h) (by omega), fun _ => ?_⟩) | (refine ⟨fun _ => ?_, fun h => absurd ((nI_eq (by omega) (by omega)).mp h) (by omega)⟩) | (refine ⟨fun h => absurd h (by decide), fun _ => ?_⟩) | (refine ⟨fun _ => ?_, fun h => absurd h (by decide)⟩) | (refine ⟨fun h => absurd rfl h, fun _ => ?_⟩) | (refine ⟨fun _ => ?_, fun h => absurd rfl h⟩)))
              have ha' := (hge a (by omega)).trans ha
              refine px_cV rfl rfl kX6_isEnd rfl (c_M_isEnd ha' ((hge q1 (by omega)).trans hq1) hr' ?_) (Nat.le_refl _) ha' rfl rfl rfl (Nat.le_of_ble_eq_true rfl) (Nat.zero_le _) (Nat.zero_le _)
              rw [hg1 _ hr']
              cases hen : en1 (p0 / 25) with
              | false =>
                have ht := second false (by rw [hx, hen])
                (repeat (first | (exact ht) | (refine px_st rfl rfl ?_; simp only [px_wp, px_at, px_set, px_set2, px_clr, px_ldi, px_ldl, px_lda, px_i1, px_i2, px_l1, px_l2, px_il, px_a1, px_r1, px_r2, px_ir, px_vir, px_g, px_v1, px_v2, px_gf, px_pf, px_ps, px_ar, px_nth, px_upd, px_zero, px_dfl, px_put_self, px_put_ne, px_sw, nI_add, pk_mul, true_and, and_true, Nat.reduceAdd, Nat.reduceLT, Nat.reduceEqDiff, List.length_cons, List.length_nil, true_or, or_true, List.set_set, ne_eq, not_false_eq_true, Fin.isValue, Fin.val_zero, Fin.val_one, Fin.val_two, reduceCtorEq, Option.map_some, List.length_set, Nat.zero_lt_succ, Option.toList_some, Option.toList_none, List.cons_append, List.nil_append, px_b_2, IA, LA, BA, ZA, QA, PT, DR, TL, MC, CD, CC, false_and, or_false, false_or, nar_b, nar_0, nar_1, nar_y]) | (refine ⟨_, rfl, by omega, ?_⟩) | (refine ⟨fun h => absurd h (nI_nlt (by omega) (by omega)), fun _ => ?_⟩) | (refine ⟨fun _ => ?_, fun h => absurd h (nI_nlt (by omega) (by omega))⟩) | (refine ⟨fun h => absurd (nI_lt (by omega) (by omega)) h, fun _ => ?_⟩) | (refine ⟨fun _ => ?_, fun h => absurd (nI_lt (by omega) (by omega)) h⟩) | (refine ⟨fun h => absurd ((nI_eq (by omega) (by omega)).mp h) (by omega), fun _ => ?_⟩) | (refine ⟨fun _ => ?_, fun h => absurd ((nI_eq (by omega) (by omega)).mp h) (by omega)⟩) | (refine ⟨fun h => absurd h (by decide), fun _ => ?_⟩) | (refine ⟨fun _ => ?_, fun h => absurd h (by decide)⟩) | (refine ⟨fun h => absurd rfl h, fun _ => ?_⟩) | (refine ⟨fun _ => ?_, fun h => absurd rfl h⟩)))
              | true =>
                have ht := second true (by rw [hx, hen])
                (repeat (first | (exact ht) | (refine px_st rfl rfl ?_; simp only [px_wp, px_at, px_set, px_set2, px_clr, px_ldi, px_ldl, px_lda, px_i1, px_i2, px_l1, px_l2, px_il, px_a1, px_r1, px_r2, px_ir, px_vir, px_g, px_v1, px_v2, px_gf, px_pf, px_ps, px_ar, px_nth, px_upd, px_zero, px_dfl, px_put_self, px_put_ne, px_sw, nI_add, pk_mul, true_and, and_true, Nat.reduceAdd, Nat.reduceLT, Nat.reduceEqDiff, List.length_cons, List.length_nil, true_or, or_true, List.set_set, ne_eq, not_false_eq_true, Fin.isValue, Fin.val_zero, Fin.val_one, Fin.val_two, reduceCtorEq, Option.map_some, List.length_set, Nat.zero_lt_succ, Option.toList_some, Option.toList_none, List.cons_append, List.nil_append, px_b_2, IA, LA, BA, ZA, QA, PT, DR, TL, MC, CD, CC, false_and, or_false, false_or, nar_b, nar_0, nar_1, nar_y]) | (refine ⟨_, rfl, by omega, ?_⟩) | (refine ⟨fun h => absurd h (nI_nlt (by omega) (by omega)), fun _ => ?_⟩) | (refine ⟨fun _ => ?_, fun h => absurd h (nI_nlt (by omega) (by omega))⟩) | (refine ⟨fun h => absurd (nI_lt (by omega) (by omega)) h, fun _ => ?_⟩) | (refine ⟨fun _ => ?_, fun h => absurd (nI_lt (by omega) (by omega)) h⟩) | (refine ⟨fun h => absurd ((nI_eq (by omega) (by omega)).mp h) (by omega), fun _ => ?_⟩) | (refine ⟨fun _ => ?_, fun h => absurd ((nI_eq (by omega) (by omega)).mp h) (by omega)⟩) | (refine ⟨fun h => absurd h (by decide), fun _ => ?_⟩) | (refine ⟨fun _ => ?_, fun h => absurd h (by decide)⟩) | (refine ⟨fun h => absurd rfl h, fun _ => ?_⟩) | (refine ⟨fun _ => ?_, fun h => absurd rfl h⟩)))
          (repeat (first | (first | exact first | refine ⟨by decide, ?_⟩) | (refine px_st rfl rfl ?_; simp only [px_wp, px_at, px_set, px_set2, px_clr, px_ldi, px_ldl, px_lda, px_i1, px_i2, px_l1, px_l2, px_il, px_a1, px_r1, px_r2, px_ir, px_vir, px_g, px_v1, px_v2, px_gf, px_pf, px_ps, px_ar, px_nth, px_upd, px_zero, px_dfl, px_put_self, px_put_ne, px_sw, nI_add, pk_mul, true_and, and_true, Nat.reduceAdd, Nat.reduceLT, Nat.reduceEqDiff, List.length_cons, List.length_nil, true_or, or_true, List.set_set, ne_eq, not_false_eq_true, Fin.isValue, Fin.val_zero, Fin.val_one, Fin.val_two, reduceCtorEq, Option.map_some, List.length_set, Nat.zero_lt_succ, Option.toList_some, Option.toList_none, List.cons_append, List.nil_append, px_b_2, IA, LA, BA, ZA, QA, PT, DR, TL, MC, CD, CC, false_and, or_false, false_or, nar_b, nar_0, nar_1, nar_y, c45, c46, hqa, hd25, hr25]) | (refine ⟨_, rfl, by omega, ?_⟩) | (refine ⟨fun h => absurd h (nI_nlt (by omega) (by omega)), fun _ => ?_⟩) | (refine ⟨fun _ => ?_, fun h => absurd h (nI_nlt (by omega) (by omega))⟩) | (refine ⟨fun h => absurd (nI_lt (by omega) (by omega)) h, fun _ => ?_⟩) | (refine ⟨fun _ => ?_, fun h => absurd (nI_lt (by omega) (by omega)) h⟩) | (refine ⟨fun h => absurd ((nI_eq (by omega) (by omega)).mp h) (by omega), fun _ => ?_⟩) | (refine ⟨fun _ => ?_, fun h => absurd ((nI_eq (by omega) (by omega)).mp h) (by omega)⟩) | (refine ⟨fun h => absurd h (by decide), fun _ => ?_⟩) | (refine ⟨fun _ => ?_, fun h => absurd h (by decide)⟩) | (refine ⟨fun h => absurd rfl h, fun _ => ?_⟩) | (refine ⟨fun _ => ?_, fun h => absurd rfl h⟩)))
        · rw [if_neg hk] at hm
          cases hm
          obtain ⟨c45, c46, c47, c48, c49⟩ := gt (c := nc) (rl := rl) (qa := qa) (cf := cf) (cb := cb) (r := r)
          have hkn' : k = n := by omega
          have hacn : ac = nc := by
            have h4 := hR.2.2.2
            cases z with
            | none =>
              have := h4.1
              have hpo : ac = k := hpo
              omega
            | some z0 =>
              have a0 := h4.1
              have a1 := h4.2.1
              rcases hpo with ⟨u1, u2⟩ | ⟨u1, u2⟩ <;> omega
          have hq := hQ nc rl qa cf cb r hrow
          cases oMF <;> cases oNF <;> ((repeat (first | (refine px_st rfl rfl ?_; simp only [px_wp, px_at, px_set, px_set2, px_clr, px_ldi, px_ldl, px_lda, px_i1, px_i2, px_l1, px_l2, px_il, px_a1, px_r1, px_r2, px_ir, px_vir, px_g, px_v1, px_v2, px_gf, px_pf, px_ps, px_ar, px_nth, px_upd, px_zero, px_dfl, px_put_self, px_put_ne, px_sw, nI_add, pk_mul, true_and, and_true, Nat.reduceAdd, Nat.reduceLT, Nat.reduceEqDiff, List.length_cons, List.length_nil, true_or, or_true, List.set_set, ne_eq, not_false_eq_true, Fin.isValue, Fin.val_zero, Fin.val_one, Fin.val_two, reduceCtorEq, Option.map_some, List.length_set, Nat.zero_lt_succ, Option.toList_some, Option.toList_none, List.cons_append, List.nil_append, px_b_2, IA, LA, BA, ZA, QA, PT, DR, TL, MC, CD, CC, false_and, or_false, false_or, nar_b, nar_0, nar_1, nar_y, c45]) | (refine ⟨_, rfl, by omega, ?_⟩) | (refine ⟨fun h => absurd h (nI_nlt (by omega) (by omega)), fun _ => ?_⟩) | (refine ⟨fun _ => ?_, fun h => absurd h (nI_nlt (by omega) (by omega))⟩) | (refine ⟨fun h => absurd (nI_lt (by omega) (by omega)) h, fun _ => ?_⟩) | (refine ⟨fun _ => ?_, fun h => absurd (nI_lt (by omega) (by omega)) h⟩) | (refine ⟨fun h => absurd ((nI_eq (by omega) (by omega)).mp h) (by omega), fun _ => ?_⟩) | (refine ⟨fun _ => ?_, fun h => absurd ((nI_eq (by omega) (by omega)).mp h) (by omega)⟩) | (refine ⟨fun h => absurd h (by decide), fun _ => ?_⟩) | (refine ⟨fun _ => ?_, fun h => absurd h (by decide)⟩) | (refine ⟨fun h => absurd rfl h, fun _ => ?_⟩) | (refine ⟨fun _ => ?_, fun h => absurd rfl h⟩)))) <;> exact px_ireturn rfl (Or.inl rfl) (Nat.le_refl _) (Nat.le_refl _) hq
      rcases hpo with hpo | ⟨hz, hac⟩
      · exact self ac x6 x7 x8 x9 x10 hpo
      · -- the broken pair first
        subst hz
        subst hac
        obtain ⟨a0, a1, a2, a3, a4, a5⟩ := hR.2.2.2
        obtain ⟨c45, c46, c47, c48, c49⟩ := gt (c := nc) (rl := rl) (qa := qa) (cf := cf) (cb := cb) (r := r)
        have hge := ge (c := nc) (rl := rl) (qa := qa) (cf := cf) (cb := cb) (r := r)
        have evs : ∀ (m e : Nat), e + m = 24 → px_W G mX2_relate (d + 2) 0 0 Q 0 0 197 [some (.ref 45), some (.ref a), some (.ref b), some (.int (px_b oM)), some (.int (px_b oN)), some (.int (nI ac)), some (.int (nI 24)), some (.int (nI 24)), some (.int (nI 0)), some (.int (nI 0)), some (.int (nI e))] [] (cH ph nc rl qa cf cb r) := by
          intro m
          induction m with
          | zero =>
            intro e he
            have he24 : e = 24 := by omega
            subst he24
            have hs := self (ac + 1) (some (.int (nI 24))) (some (.int (nI 24))) (some (.int (nI 0))) (some (.int (nI 0))) (some (.int (nI 24))) (Or.inr ⟨rfl, Nat.le_refl _⟩)
            (repeat (first | (exact hs) | (refine px_st rfl rfl ?_; simp only [px_wp, px_at, px_set, px_set2, px_clr, px_ldi, px_ldl, px_lda, px_i1, px_i2, px_l1, px_l2, px_il, px_a1, px_r1, px_r2, px_ir, px_vir, px_g, px_v1, px_v2, px_gf, px_pf, px_ps, px_ar, px_nth, px_upd, px_zero, px_dfl, px_put_self, px_put_ne, px_sw, nI_add, pk_mul, true_and, and_true, Nat.reduceAdd, Nat.reduceLT, Nat.reduceEqDiff, List.length_cons, List.length_nil, true_or, or_true, List.set_set, ne_eq, not_false_eq_true, Fin.isValue, Fin.val_zero, Fin.val_one, Fin.val_two, reduceCtorEq, Option.map_some, List.length_set, Nat.zero_lt_succ, Option.toList_some, Option.toList_none, List.cons_append, List.nil_append, px_b_2, IA, LA, BA, ZA, QA, PT, DR, TL, MC, CD, CC, false_and, or_false, false_or, nar_b, nar_0, nar_1, nar_y]) | (refine ⟨_, rfl, by omega, ?_⟩) | (refine ⟨fun h => absurd h (nI_nlt (by omega) (by omega)), fun _ => ?_⟩) | (refine ⟨fun _ => ?_, fun h => absurd h (nI_nlt (by omega) (by omega))⟩) | (refine ⟨fun h => absurd (nI_lt (by omega) (by omega)) h, fun _ => ?_⟩) | (refine ⟨fun _ => ?_, fun h => absurd (nI_lt (by omega) (by omega)) h⟩) | (refine ⟨fun h => absurd ((nI_eq (by omega) (by omega)).mp h) (by omega), fun _ => ?_⟩) | (refine ⟨fun _ => ?_, fun h => absurd ((nI_eq (by omega) (by omega)).mp h) (by omega)⟩) | (refine ⟨fun h => absurd h (by decide), fun _ => ?_⟩) | (refine ⟨fun _ => ?_, fun h => absurd h (by decide)⟩) | (refine ⟨fun h => absurd rfl h, fun _ => ?_⟩) | (refine ⟨fun _ => ?_, fun h => absurd rfl h⟩)))
          | succ m ihm =>
            intro e he
            (repeat (first | (refine px_st rfl rfl ?_; simp only [px_wp, px_at, px_set, px_set2, px_clr, px_ldi, px_ldl, px_lda, px_i1, px_i2, px_l1, px_l2, px_il, px_a1, px_r1, px_r2, px_ir, px_vir, px_g, px_v1, px_v2, px_gf, px_pf, px_ps, px_ar, px_nth, px_upd, px_zero, px_dfl, px_put_self, px_put_ne, px_sw, nI_add, pk_mul, true_and, and_true, Nat.reduceAdd, Nat.reduceLT, Nat.reduceEqDiff, List.length_cons, List.length_nil, true_or, or_true, List.set_set, ne_eq, not_false_eq_true, Fin.isValue, Fin.val_zero, Fin.val_one, Fin.val_two, reduceCtorEq, Option.map_some, List.length_set, Nat.zero_lt_succ, Option.toList_some, Option.toList_none, List.cons_append, List.nil_append, px_b_2, IA, LA, BA, ZA, QA, PT, DR, TL, MC, CD, CC, false_and, or_false, false_or, nar_b, nar_0, nar_1, nar_y]) | (refine ⟨_, rfl, by omega, ?_⟩) | (refine ⟨fun h => absurd h (nI_nlt (by omega) (by omega)), fun _ => ?_⟩) | (refine ⟨fun _ => ?_, fun h => absurd h (nI_nlt (by omega) (by omega))⟩) | (refine ⟨fun h => absurd (nI_lt (by omega) (by omega)) h, fun _ => ?_⟩) | (refine ⟨fun _ => ?_, fun h => absurd (nI_lt (by omega) (by omega)) h⟩) | (refine ⟨fun h => absurd ((nI_eq (by omega) (by omega)).mp h) (by omega), fun _ => ?_⟩) | (refine ⟨fun _ => ?_, fun h => absurd ((nI_eq (by omega) (by omega)).mp h) (by omega)⟩) | (refine ⟨fun h => absurd h (by decide), fun _ => ?_⟩) | (refine ⟨fun _ => ?_, fun h => absurd h (by decide)⟩) | (refine ⟨fun h => absurd rfl h, fun _ => ?_⟩) | (refine ⟨fun _ => ?_, fun h => absurd rfl h⟩)))
            refine px_cS rfl rfl kX2_pairBehind rfl (c_X_pairBehind (d := d) hs1.2 hs2.2 hn1 hn2 ((hge a (by omega)).trans ha) ((hge b (by omega)).trans hb) ((hge p1 (by omega)).trans hp1) ((hge p2 (by omega)).trans hp2) hf1 hf2 (Or.inl rfl) (Or.inl rfl) (show e < 24 by omega) ?_) (Nat.le_refl _) rfl rfl (Nat.le_of_ble_eq_true rfl) (Nat.zero_le _) (Nat.zero_le _)
            rw [show led nx1 24 e * 25 + led nx2 24 e = 624 by unfold led; rw [if_pos rfl, if_pos rfl]]
            (repeat (first | (refine px_st rfl rfl ?_; simp only [px_wp, px_at, px_set, px_set2, px_clr, px_ldi, px_ldl, px_lda, px_i1, px_i2, px_l1, px_l2, px_il, px_a1, px_r1, px_r2, px_ir, px_vir, px_g, px_v1, px_v2, px_gf, px_pf, px_ps, px_ar, px_nth, px_upd, px_zero, px_dfl, px_put_self, px_put_ne, px_sw, nI_add, pk_mul, true_and, and_true, Nat.reduceAdd, Nat.reduceLT, Nat.reduceEqDiff, List.length_cons, List.length_nil, true_or, or_true, List.set_set, ne_eq, not_false_eq_true, Fin.isValue, Fin.val_zero, Fin.val_one, Fin.val_two, reduceCtorEq, Option.map_some, List.length_set, Nat.zero_lt_succ, Option.toList_some, Option.toList_none, List.cons_append, List.nil_append, px_b_2, IA, LA, BA, ZA, QA, PT, DR, TL, MC, CD, CC, false_and, or_false, false_or, nar_b, nar_0, nar_1, nar_y, c45, c46, a3]) | (refine ⟨_, rfl, by omega, ?_⟩) | (refine ⟨fun h => absurd h (nI_nlt (by omega) (by omega)), fun _ => ?_⟩) | (refine ⟨fun _ => ?_, fun h => absurd h (nI_nlt (by omega) (by omega))⟩) | (refine ⟨fun h => absurd (nI_lt (by omega) (by omega)) h, fun _ => ?_⟩) | (refine ⟨fun _ => ?_, fun h => absurd (nI_lt (by omega) (by omega)) h⟩) | (refine ⟨fun h => absurd ((nI_eq (by omega) (by omega)).mp h) (by omega), fun _ => ?_⟩) | (refine ⟨fun _ => ?_, fun h => absurd ((nI_eq (by omega) (by omega)).mp h) (by omega)⟩) | (refine ⟨fun h => absurd h (by decide), fun _ => ?_⟩) | (refine ⟨fun _ => ?_, fun h => absurd h (by decide)⟩) | (refine ⟨fun h => absurd rfl h, fun _ => ?_⟩) | (refine ⟨fun _ => ?_, fun h => absurd rfl h⟩)))
            refine px_cV rfl rfl kX2_reach rfl (c_X_reach (show 624 < 625 by omega) c45 c46 c47 c48 (fun hcf => ?_) (fun hcf => absurd hcf a5)) (Nat.le_refl _) c45 rfl rfl rfl (Nat.le_of_ble_eq_true rfl) (Nat.zero_le _) (Nat.zero_le _)
            (repeat (first | (exact ihm (e + 1) (by omega)) | (refine px_st rfl rfl ?_; simp only [px_wp, px_at, px_set, px_set2, px_clr, px_ldi, px_ldl, px_lda, px_i1, px_i2, px_l1, px_l2, px_il, px_a1, px_r1, px_r2, px_ir, px_vir, px_g, px_v1, px_v2, px_gf, px_pf, px_ps, px_ar, px_nth, px_upd, px_zero, px_dfl, px_put_self, px_put_ne, px_sw, nI_add, pk_mul, true_and, and_true, Nat.reduceAdd, Nat.reduceLT, Nat.reduceEqDiff, List.length_cons, List.length_nil, true_or, or_true, List.set_set, ne_eq, not_false_eq_true, Fin.isValue, Fin.val_zero, Fin.val_one, Fin.val_two, reduceCtorEq, Option.map_some, List.length_set, Nat.zero_lt_succ, Option.toList_some, Option.toList_none, List.cons_append, List.nil_append, px_b_2, IA, LA, BA, ZA, QA, PT, DR, TL, MC, CD, CC, false_and, or_false, false_or, nar_b, nar_0, nar_1, nar_y]) | (refine ⟨_, rfl, by omega, ?_⟩) | (refine ⟨fun h => absurd h (nI_nlt (by omega) (by omega)), fun _ => ?_⟩) | (refine ⟨fun _ => ?_, fun h => absurd h (nI_nlt (by omega) (by omega))⟩) | (refine ⟨fun h => absurd (nI_lt (by omega) (by omega)) h, fun _ => ?_⟩) | (refine ⟨fun _ => ?_, fun h => absurd (nI_lt (by omega) (by omega)) h⟩) | (refine ⟨fun h => absurd ((nI_eq (by omega) (by omega)).mp h) (by omega), fun _ => ?_⟩) | (refine ⟨fun _ => ?_, fun h => absurd ((nI_eq (by omega) (by omega)).mp h) (by omega)⟩) | (refine ⟨fun h => absurd h (by decide), fun _ => ?_⟩) | (refine ⟨fun _ => ?_, fun h => absurd h (by decide)⟩) | (refine ⟨fun h => absurd rfl h, fun _ => ?_⟩) | (refine ⟨fun _ => ?_, fun h => absurd rfl h⟩)))
        have h0 := evs 24 0 rfl
        have hd25 : nI 624 / nI 25 = nI 24 := by decide
        have hr25 : nI 624 - nI (24 * 25) = nI 24 := by decide
        have hr25' : nI 624 - nI 600 = nI 24 := by decide
        cases oM <;> cases oN <;> ((repeat (first | (first | exact h0 | refine ⟨by decide, ?_⟩) | (refine px_st rfl rfl ?_; simp only [px_wp, px_at, px_set, px_set2, px_clr, px_ldi, px_ldl, px_lda, px_i1, px_i2, px_l1, px_l2, px_il, px_a1, px_r1, px_r2, px_ir, px_vir, px_g, px_v1, px_v2, px_gf, px_pf, px_ps, px_ar, px_nth, px_upd, px_zero, px_dfl, px_put_self, px_put_ne, px_sw, nI_add, pk_mul, true_and, and_true, Nat.reduceAdd, Nat.reduceLT, Nat.reduceEqDiff, List.length_cons, List.length_nil, true_or, or_true, List.set_set, ne_eq, not_false_eq_true, Fin.isValue, Fin.val_zero, Fin.val_one, Fin.val_two, reduceCtorEq, Option.map_some, List.length_set, Nat.zero_lt_succ, Option.toList_some, Option.toList_none, List.cons_append, List.nil_append, px_b_2, IA, LA, BA, ZA, QA, PT, DR, TL, MC, CD, CC, false_and, or_false, false_or, nar_b, nar_0, nar_1, nar_y, c45, c46, a3, hd25, hr25, hr25']) | (refine ⟨_, rfl, by omega, ?_⟩) | (refine ⟨fun h => absurd h (nI_nlt (by omega) (by omega)), fun _ => ?_⟩) | (refine ⟨fun _ => ?_, fun h => absurd h (nI_nlt (by omega) (by omega))⟩) | (refine ⟨fun h => absurd (nI_lt (by omega) (by omega)) h, fun _ => ?_⟩) | (refine ⟨fun _ => ?_, fun h => absurd (nI_lt (by omega) (by omega)) h⟩) | (refine ⟨fun h => absurd ((nI_eq (by omega) (by omega)).mp h) (by omega), fun _ => ?_⟩) | (refine ⟨fun _ => ?_, fun h => absurd ((nI_eq (by omega) (by omega)).mp h) (by omega)⟩) | (refine ⟨fun h => absurd h (by decide), fun _ => ?_⟩) | (refine ⟨fun _ => ?_, fun h => absurd h (by decide)⟩) | (refine ⟨fun h => absurd rfl h, fun _ => ?_⟩) | (refine ⟨fun _ => ?_, fun h => absurd rfl h⟩))))
  (repeat (first | (refine px_st rfl rfl ?_; simp only [px_wp, px_at, px_set, px_set2, px_clr, px_ldi, px_ldl, px_lda, px_i1, px_i2, px_l1, px_l2, px_il, px_a1, px_r1, px_r2, px_ir, px_vir, px_g, px_v1, px_v2, px_gf, px_pf, px_ps, px_ar, px_nth, px_upd, px_zero, px_dfl, px_put_self, px_put_ne, px_sw, nI_add, pk_mul, true_and, and_true, Nat.reduceAdd, Nat.reduceLT, Nat.reduceEqDiff, List.length_cons, List.length_nil, true_or, or_true, List.set_set, ne_eq, not_false_eq_true, Fin.isValue, Fin.val_zero, Fin.val_one, Fin.val_two, reduceCtorEq, Option.map_some, List.length_set, Nat.zero_lt_succ, Option.toList_some, Option.toList_none, List.cons_append, List.nil_append, px_b_2, IA, LA, BA, ZA, QA, PT, DR, TL, MC, CD, CC, false_and, or_false, false_or, nar_b, nar_0, nar_1, nar_y, h45]) | (refine ⟨_, rfl, by omega, ?_⟩) | (refine ⟨fun h => absurd h (nI_nlt (by omega) (by omega)), fun _ => ?_⟩) | (refine ⟨fun _ => ?_, fun h => absurd h (nI_nlt (by omega) (by omega))⟩) | (refine ⟨fun h => absurd (nI_lt (by omega) (by omega)) h, fun _ => ?_⟩) | (refine ⟨fun _ => ?_, fun h => absurd (nI_lt (by omega) (by omega)) h⟩) | (refine ⟨fun h => absurd ((nI_eq (by omega) (by omega)).mp h) (by omega), fun _ => ?_⟩) | (refine ⟨fun _ => ?_, fun h => absurd ((nI_eq (by omega) (by omega)).mp h) (by omega)⟩) | (refine ⟨fun h => absurd h (by decide), fun _ => ?_⟩) | (refine ⟨fun _ => ?_, fun h => absurd h (by decide)⟩) | (refine ⟨fun h => absurd rfl h, fun _ => ?_⟩) | (refine ⟨fun _ => ?_, fun h => absurd rfl h⟩)))
  refine px_cS rfl rfl kJ7_fill_53178 rfl (c_fill (by decide) h47 ?_) (Nat.le_refl _) rfl rfl (Nat.le_of_ble_eq_true rfl) (Nat.zero_le _) (Nat.zero_le _)
  have hcR : cR none 1 1 (fun _ => 0) (fun _ => []) (upd qa0 0 (nI 0)) (upd (va_fill cf0 625 (-2)) 0 (nI 0)) (upd cb0 0 (-2)) := by
    refine ⟨fun j hj => Or.inl ⟨by omega, rfl, rfl⟩, fun p hp hm => ?_, fun j hj => ?_, rfl, fun j hj => ?_, ?_⟩
    · have := mtB_no hm 0 (by omega)
      unfold upd
      rw [if_neg (fun h => this h.symm)]
      unfold va_fill
      rw [if_pos (by omega)]
    · rw [pk_us]; decide
    · have : j = 0 := by omega
      subst this
      exact pk_us
    · unfold upd va_fill
      rw [if_neg (by omega), if_pos (by omega)]
  have hBQ : BQ (pV s1 s2) 1 (fun _ => 0) := ⟨fun j hj => ⟨by show 0 < 624; omega, Or.inr (by show 0 / 25 < s1; omega), Or.inr (by show 0 % 25 < s2; omega)⟩, fun i j hi hj _ => by omega⟩
  have h0 := main 626 0 1 1 0 (fun _ => 0) (fun _ => []) false false none none (-2) (upd qa0 0 (nI 0)) (upd (va_fill cf0 625 (-2)) 0 (nI 0)) (upd cb0 0 (-2)) r0 none none none none none hT (by omega) hBQ (fun _ _ _ => rfl) hcR ⟨rfl, fun L hL => by cases hL⟩ (Or.inl rfl)
  rw [cH, px_put_id (o := 49) (by rw [px_put_ne (by decide), px_put_ne (by decide), px_put_ne (by decide), px_put_ne (by decide)]; exact h49)] at h0
  have k45 : ((ph.set 45 (CM 0 (-2))).set 47 (IA 625 (va_fill cf0 625 (-2))))[45]? = some (CM 0 (-2)) := (px_put_ne (by decide)).trans (px_put_self.trans (by rw [h45]; rfl))
  have k46 : ((ph.set 45 (CM 0 (-2))).set 47 (IA 625 (va_fill cf0 625 (-2))))[46]? = some (IA 625 qa0) := (px_put_ne (by decide)).trans ((px_put_ne (by decide)).trans h46)
  have k47 : ((ph.set 45 (CM 0 (-2))).set 47 (IA 625 (va_fill cf0 625 (-2))))[47]? = some (IA 625 (va_fill cf0 625 (-2))) := px_put_self.trans (by rw [px_put_ne (by decide), h47]; rfl)
  have k48 : ((ph.set 45 (CM 0 (-2))).set 47 (IA 625 (va_fill cf0 625 (-2))))[48]? = some (IA 625 cb0) := (px_put_ne (by decide)).trans ((px_put_ne (by decide)).trans h48)
  (repeat (first | (refine px_st rfl rfl ?_; simp only [px_wp, px_at, px_set, px_set2, px_clr, px_ldi, px_ldl, px_lda, px_i1, px_i2, px_l1, px_l2, px_il, px_a1, px_r1, px_r2, px_ir, px_vir, px_g, px_v1, px_v2, px_gf, px_pf, px_ps, px_ar, px_nth, px_upd, px_zero, px_dfl, px_put_self, px_put_ne, px_sw, nI_add, pk_mul, true_and, and_true, Nat.reduceAdd, Nat.reduceLT, Nat.reduceEqDiff, List.length_cons, List.length_nil, true_or, or_true, List.set_set, ne_eq, not_false_eq_true, Fin.isValue, Fin.val_zero, Fin.val_one, Fin.val_two, reduceCtorEq, Option.map_some, List.length_set, Nat.zero_lt_succ, Option.toList_some, Option.toList_none, List.cons_append, List.nil_append, px_b_2, IA, LA, BA, ZA, QA, PT, DR, TL, MC, CD, CC, false_and, or_false, false_or, nar_b, nar_0, nar_1, nar_y, h45]) | (refine ⟨_, rfl, by omega, ?_⟩) | (refine ⟨fun h => absurd h (nI_nlt (by omega) (by omega)), fun _ => ?_⟩) | (refine ⟨fun _ => ?_, fun h => absurd h (nI_nlt (by omega) (by omega))⟩) | (refine ⟨fun h => absurd (nI_lt (by omega) (by omega)) h, fun _ => ?_⟩) | (refine ⟨fun _ => ?_, fun h => absurd (nI_lt (by omega) (by omega)) h⟩) | (refine ⟨fun h => absurd ((nI_eq (by omega) (by omega)).mp h) (by omega), fun _ => ?_⟩) | (refine ⟨fun _ => ?_, fun h => absurd ((nI_eq (by omega) (by omega)).mp h) (by omega)⟩) | (refine ⟨fun h => absurd h (by decide), fun _ => ?_⟩) | (refine ⟨fun _ => ?_, fun h => absurd h (by decide)⟩) | (refine ⟨fun h => absurd rfl h, fun _ => ?_⟩) | (refine ⟨fun _ => ?_, fun h => absurd rfl h⟩)))
  refine px_cV rfl rfl kX2_reach rfl (c_X_reach (p := 0) (by omega) k45 k46 k47 k48 (fun hcf => absurd (by unfold va_fill; rw [if_pos (by omega)]) hcf) (fun hcf => ⟨by omega, ?_⟩)) (Nat.le_refl _) k45 rfl rfl rfl (Nat.le_of_ble_eq_true rfl) (Nat.zero_le _) (Nat.zero_le _)
  (repeat (first | (exact h0) | (refine px_st rfl rfl ?_; simp only [px_wp, px_at, px_set, px_set2, px_clr, px_ldi, px_ldl, px_lda, px_i1, px_i2, px_l1, px_l2, px_il, px_a1, px_r1, px_r2, px_ir, px_vir, px_g, px_v1, px_v2, px_gf, px_pf, px_ps, px_ar, px_nth, px_upd, px_zero, px_dfl, px_put_self, px_put_ne, px_sw, nI_add, pk_mul, true_and, and_true, Nat.reduceAdd, Nat.reduceLT, Nat.reduceEqDiff, List.length_cons, List.length_nil, true_or, or_true, List.set_set, ne_eq, not_false_eq_true, Fin.isValue, Fin.val_zero, Fin.val_one, Fin.val_two, reduceCtorEq, Option.map_some, List.length_set, Nat.zero_lt_succ, Option.toList_some, Option.toList_none, List.cons_append, List.nil_append, px_b_2, IA, LA, BA, ZA, QA, PT, DR, TL, MC, CD, CC, false_and, or_false, false_or, nar_b, nar_0, nar_1, nar_y, h45, h46, h47, h48]) | (refine ⟨_, rfl, by omega, ?_⟩) | (refine ⟨fun h => absurd h (nI_nlt (by omega) (by omega)), fun _ => ?_⟩) | (refine ⟨fun _ => ?_, fun h => absurd h (nI_nlt (by omega) (by omega))⟩) | (refine ⟨fun h => absurd (nI_lt (by omega) (by omega)) h, fun _ => ?_⟩) | (refine ⟨fun _ => ?_, fun h => absurd (nI_lt (by omega) (by omega)) h⟩) | (refine ⟨fun h => absurd ((nI_eq (by omega) (by omega)).mp h) (by omega), fun _ => ?_⟩) | (refine ⟨fun _ => ?_, fun h => absurd ((nI_eq (by omega) (by omega)).mp h) (by omega)⟩) | (refine ⟨fun h => absurd h (by decide), fun _ => ?_⟩) | (refine ⟨fun _ => ?_, fun h => absurd h (by decide)⟩) | (refine ⟨fun h => absurd rfl h, fun _ => ?_⟩) | (refine ⟨fun _ => ?_, fun h => absurd rfl h⟩)))
end CM2
