/-- what the Model keeps of a taken event: -1 for any -/
def tM (e : Nat) : Int32 := if e = 24 then -1 else nI e
/-- the Model's cells of the reader -/
def mP (m0 : Nat → Int32) (F : Nat → PTt) (ha : Nat → Bool) (pl : Nat) (ip ir : Bool) (tk : Nat → Nat) (fl fh : Nat → Int64) (ph : List px_E) : Prop := ∃ (m em ha' tk' : Nat → Int32) (f1 f2 f3 f4 : Nat → Int64), (ph[100]? = some (MD m) ∧ m 1 = nI pl ∧ m 2 = px_b ip ∧ m 3 = px_b ir ∧ ∀ j, ¬ j = 1 → ¬ j = 2 → ¬ j = 3 → m j = m0 j) ∧ (ph[105]? = some (ZA 40 em) ∧ ph[106]? = some (LA 40 f1) ∧ ph[107]? = some (LA 40 f2) ∧ ph[108]? = some (LA 40 f3) ∧ ph[109]? = some (LA 40 f4)) ∧ (ph[110]? = some (ZA 12 ha') ∧ ph[102]? = some (IA 128 tk') ∧ ph[103]? = some (LA 128 fl) ∧ ph[104]? = some (LA 128 fh)) ∧ (∀ i, i < 40 → em i = px_b (F i).2.2.2.2 ∧ f1 i = (F i).1 ∧ f2 i = (F i).2.1 ∧ f3 i = (F i).2.2.1 ∧ f4 i = (F i).2.2.2.1) ∧ (∀ i, i < 12 → ha' i = px_b (ha i)) ∧ ∀ i, i < pl → tk' i = tM (tk i)
/-- all cells but those of the Model's reader -/
def FP : Nat → px_E → Prop := fun k _ => decide (100 ≤ k ∧ k ≤ 110 ∧ ¬ k = 101) = false
theorem fp_set {ph ph' : List px_E} {k : Nat} {x : px_E} (h : fr FP ph ph') (hk : decide (100 ≤ k ∧ k ≤ 110 ∧ ¬ k = 101) = true) : fr FP ph (ph'.set k x) := fun j e p q => by
  have hne : ¬ k = j := fun z => by
    subst z
    have p : decide (100 ≤ k ∧ k ≤ 110 ∧ ¬ k = 101) = false := p
    rw [hk] at p
    cases p
  rw [px_put_ne hne]
  exact h j e p q
theorem FP_g {ph ph' : List px_E} (h : fr FP ph ph') : fr (FR [10, 11]) ph ph' := fr_mono h (fun k e p => by
  refine decide_eq_false (fun q => ?_)
  have p : [10, 11].contains (grp k) = false := p
  obtain ⟨q1, q2, q3⟩ := q
  have hk : k = 100 ∨ k = 102 ∨ k = 103 ∨ k = 104 ∨ k = 105 ∨ k = 106 ∨ k = 107 ∨ k = 108 ∨ k = 109 ∨ k = 110 := by omega
  rcases hk with rfl | rfl | rfl | rfl | rfl | rfl | rfl | rfl | rfl | rfl <;> cases p)
theorem mP_100 {m0 : Nat → Int32} {F : Nat → PTt} {ha : Nat → Bool} {pl : Nat} {ip ir : Bool} {tk : Nat → Nat} {fl fh : Nat → Int64} {ph : List px_E} (h : mP m0 F ha pl ip ir tk fl fh ph) : ∃ m, ph[100]? = some (MD m) ∧ m 1 = nI pl ∧ m 2 = px_b ip ∧ m 3 = px_b ir ∧ ∀ j, ¬ j = 1 → ¬ j = 2 → ¬ j = 3 → m j = m0 j := by
  obtain ⟨m, em, ha', tk', f1, f2, f3, f4, h1, -⟩ := h
  exact ⟨m, h1⟩
theorem upL_s {f : Nat → Int64} {k : Nat} {v : Int64} : vp_updL f k v k = v := if_pos rfl
theorem upL_n {f : Nat → Int64} {k j : Nat} {v : Int64} (h : ¬ j = k) : vp_updL f k v j = f j := if_neg h
/-- bit j, by a shift with sign -/
theorem bt_shr {x : Int64} {j : Nat} (hj : j < 64) : (x >>> ((nI j).toInt64 &&& 63)) &&& lN 1 = lN 1 ↔ bitL x j = true := by
  have e1 : ((nI j).toInt64 &&& 63).toBitVec.toNat = j := by
    have : ∀ j, j < 64 → ((nI j).toInt64 &&& 63).toBitVec.toNat = j := by decide +kernel
    exact this j hj
  have e2 : (((nI j).toInt64 &&& 63).toBitVec.smod 64).toNat = j := by
    have : ∀ j, j < 64 → (((nI j).toInt64 &&& 63).toBitVec.smod 64).toNat = j := by decide +kernel
    exact this j hj
  have e3 : (x >>> ((nI j).toInt64 &&& 63)).toBitVec = x.toBitVec.sshiftRight j := by
    show x.toBitVec.sshiftRight' (((nI j).toInt64 &&& 63).toBitVec.smod 64) = _
    rw [BitVec.sshiftRight_eq', e2]
  have e4 : (lN 1).toBitVec = 1#64 := by decide
  rw [← Int64.toBitVec_inj, Int64.toBitVec_and, e3, e4]
  unfold bitL
  constructor
  · intro h
    have h9 : (x.toBitVec.sshiftRight j &&& 1#64).getLsbD 0 = (1#64).getLsbD 0 := by rw [h]
    rw [BitVec.getLsbD_and, BitVec.getLsbD_sshiftRight] at h9
    have h10 : (1#64).getLsbD 0 = true := by decide
    rw [h10, Bool.and_true, if_pos (by omega), Nat.add_zero] at h9
    rw [Bool.and_eq_true] at h9
    exact h9.2
  · intro h
    apply BitVec.eq_of_getLsbD_eq
    intro i hi
    rw [BitVec.getLsbD_and]
    by_cases h0 : i = 0
    · subst h0
      rw [BitVec.getLsbD_sshiftRight, if_pos (by omega), Nat.add_zero, h]
      decide
    · have : (1#64).getLsbD i = false := by
        rw [BitVec.getLsbD_one]
        simp [h0]
      rw [this, Bool.and_false]
section MPR
variable {G : px_G} {ph : List px_E} {d : Nat} {Q : Option Value → List px_E → Prop} {m0 : Nat → Int32} {F : Nat → PTt} {ha : Nat → Bool} {pl : Nat} {ip ir : Bool} {tk : Nat → Nat} {fl fh : Nat → Int64}
set_option maxRecDepth 100000 in
set_option maxHeartbeats 4000000 in
theorem c_N_nothing {k : Nat} {b : Bool} (hk : k < 40) (h : mP m0 F ha pl ip ir tk fl fh ph) (hQ : ∀ ph', fr FP ph ph' → mP m0 (va_up F k (lN 0, lN 0, lN 0, lN 0, b)) ha pl ip ir tk fl fh ph' → Q none ph') : px_Met G mX12_nothing d 0 0 [.ref 100, .int (nI k), .int (px_b b)] ph Q := by
  obtain ⟨m, em, ha', tk', f1, f2, f3, f4, ⟨h100, e1⟩, ⟨h105, h106, h107, h108, h109⟩, ⟨h110, h102, h103, h104⟩, v1, v2⟩ := h
  refine px_start kX12_nothing (Nat.le_of_ble_eq_true rfl) ?_
  show px_W G _ _ _ _ _ 0 0 0 [some (.ref 100), some (.int (nI k)), some (.int (px_b b))] [] ph
  (repeat (first | (refine px_st rfl rfl ?_; simp only [px_wp, px_at, px_set, px_set2, px_clr, px_ldi, px_ldl, px_lda, px_i1, px_i2, px_l1, px_l2, px_il, px_a1, px_r1, px_r2, px_ir, px_vir, px_g, px_v1, px_v2, px_gf, px_pf, px_ps, px_ar, px_nth, px_upd, px_zero, px_dfl, px_put_self, px_put_ne, px_sw, nI_add, pk_mul, true_and, and_true, Nat.reduceAdd, Nat.reduceLT, Nat.reduceEqDiff, List.length_cons, List.length_nil, true_or, or_true, List.set_set, ne_eq, not_false_eq_true, Fin.isValue, Fin.val_zero, Fin.val_one, Fin.val_two, reduceCtorEq, Option.map_some, List.length_set, Nat.zero_lt_succ, Option.toList_some, Option.toList_none, List.cons_append, List.nil_append, px_b_2, IA, LA, BA, ZA, QA, PT, DR, TL, MC, CD, CC, false_and, or_false, false_or, nar_b, nar_0, nar_1, nar_y, h100, g_empty, g_firstLow, g_firstHigh, g_lastLow, g_lastHigh, h105, h106, h107, h108, h109]) | (refine ⟨_, rfl, by omega, ?_⟩) | (refine ⟨fun h => absurd h (nI_nlt (by omega) (by omega)), fun _ => ?_⟩) | (refine ⟨fun _ => ?_, fun h => absurd h (nI_nlt (by omega) (by omega))⟩) | (refine ⟨fun h => absurd (nI_lt (by omega) (by omega)) h, fun _ => ?_⟩) | (refine ⟨fun _ => ?_, fun h => absurd (nI_lt (by omega) (by omega)) h⟩) | (refine ⟨fun h => absurd ((nI_eq (by omega) (by omega)).mp h) (by omega), fun _ => ?_⟩) | (refine ⟨fun _ => ?_, fun h => absurd ((nI_eq (by omega) (by omega)).mp h) (by omega)⟩) | (refine ⟨fun h => absurd h (by decide), fun _ => ?_⟩) | (refine ⟨fun _ => ?_, fun h => absurd h (by decide)⟩) | (refine ⟨fun h => absurd rfl h, fun _ => ?_⟩) | (refine ⟨fun _ => ?_, fun h => absurd rfl h⟩)))
  refine px_return rfl rfl (Nat.le_refl _) (Nat.le_refl _) (hQ _ (fp_set (fp_set (fp_set (fp_set (fp_set fr_id rfl) rfl) rfl) rfl) rfl) ⟨m, upd em k (px_b b), ha', tk', vp_updL f1 k (lN 0), vp_updL f2 k (lN 0), vp_updL f3 k (lN 0), vp_updL f4 k (lN 0), ⟨?_, e1⟩, ⟨?_, ?_, ?_, ?_, ?_⟩, ⟨?_, ?_, ?_, ?_⟩, fun i hi => ?_, v2⟩)
  rotate_right 1
  · by_cases hik : i = k
    · subst hik; rw [pk_us, upL_s, upL_s, upL_s, upL_s, va_up_s]; exact ⟨rfl, rfl, rfl, rfl, rfl⟩
    · rw [up_ne hik, upL_n hik, upL_n hik, upL_n hik, upL_n hik, va_up_n hik]; exact v1 i hi
  all_goals simp only [px_put_self, px_put_ne, h100, h102, h103, h104, h105, h106, h107, h108, h109, h110, Nat.reduceEqDiff, not_false_eq_true, Option.map_some]
set_option maxRecDepth 100000 in
set_option maxHeartbeats 4000000 in
theorem c_N_copy {a k : Nat} (ha40 : a < 40) (hk : k < 40) (h : mP m0 F ha pl ip ir tk fl fh ph) (hQ : ∀ ph', fr FP ph ph' → mP m0 (va_up F k (F a)) ha pl ip ir tk fl fh ph' → Q none ph') : px_Met G mX12_copy d 0 0 [.ref 100, .int (nI a), .int (nI k)] ph Q := by
  obtain ⟨m, em, ha', tk', f1, f2, f3, f4, ⟨h100, e1⟩, ⟨h105, h106, h107, h108, h109⟩, ⟨h110, h102, h103, h104⟩, v1, v2⟩ := h
  obtain ⟨a1, a2, a3, a4, a5⟩ := v1 a ha40
  refine px_start kX12_copy (Nat.le_of_ble_eq_true rfl) ?_
  show px_W G _ _ _ _ _ 0 0 0 [some (.ref 100), some (.int (nI a)), some (.int (nI k))] [] ph
  (repeat (first | (refine px_st rfl rfl ?_; simp only [px_wp, px_at, px_set, px_set2, px_clr, px_ldi, px_ldl, px_lda, px_i1, px_i2, px_l1, px_l2, px_il, px_a1, px_r1, px_r2, px_ir, px_vir, px_g, px_v1, px_v2, px_gf, px_pf, px_ps, px_ar, px_nth, px_upd, px_zero, px_dfl, px_put_self, px_put_ne, px_sw, nI_add, pk_mul, true_and, and_true, Nat.reduceAdd, Nat.reduceLT, Nat.reduceEqDiff, List.length_cons, List.length_nil, true_or, or_true, List.set_set, ne_eq, not_false_eq_true, Fin.isValue, Fin.val_zero, Fin.val_one, Fin.val_two, reduceCtorEq, Option.map_some, List.length_set, Nat.zero_lt_succ, Option.toList_some, Option.toList_none, List.cons_append, List.nil_append, px_b_2, IA, LA, BA, ZA, QA, PT, DR, TL, MC, CD, CC, false_and, or_false, false_or, nar_b, nar_0, nar_1, nar_y, h100, g_empty, g_firstLow, g_firstHigh, g_lastLow, g_lastHigh, h105, h106, h107, h108, h109, a1, a2, a3, a4, a5]) | (refine ⟨_, rfl, by omega, ?_⟩) | (refine ⟨fun h => absurd h (nI_nlt (by omega) (by omega)), fun _ => ?_⟩) | (refine ⟨fun _ => ?_, fun h => absurd h (nI_nlt (by omega) (by omega))⟩) | (refine ⟨fun h => absurd (nI_lt (by omega) (by omega)) h, fun _ => ?_⟩) | (refine ⟨fun _ => ?_, fun h => absurd (nI_lt (by omega) (by omega)) h⟩) | (refine ⟨fun h => absurd ((nI_eq (by omega) (by omega)).mp h) (by omega), fun _ => ?_⟩) | (refine ⟨fun _ => ?_, fun h => absurd ((nI_eq (by omega) (by omega)).mp h) (by omega)⟩) | (refine ⟨fun h => absurd h (by decide), fun _ => ?_⟩) | (refine ⟨fun _ => ?_, fun h => absurd h (by decide)⟩) | (refine ⟨fun h => absurd rfl h, fun _ => ?_⟩) | (refine ⟨fun _ => ?_, fun h => absurd rfl h⟩)))
  refine px_return rfl rfl (Nat.le_refl _) (Nat.le_refl _) (hQ _ (fp_set (fp_set (fp_set (fp_set (fp_set fr_id rfl) rfl) rfl) rfl) rfl) ⟨m, upd em k (px_b (F a).2.2.2.2), ha', tk', vp_updL f1 k (F a).1, vp_updL f2 k (F a).2.1, vp_updL f3 k (F a).2.2.1, vp_updL f4 k (F a).2.2.2.1, ⟨?_, e1⟩, ⟨?_, ?_, ?_, ?_, ?_⟩, ⟨?_, ?_, ?_, ?_⟩, fun i hi => ?_, v2⟩)
  rotate_right 1
  · by_cases hik : i = k
    · subst hik; rw [pk_us, upL_s, upL_s, upL_s, upL_s, va_up_s]; exact ⟨rfl, rfl, rfl, rfl, rfl⟩
    · rw [up_ne hik, upL_n hik, upL_n hik, upL_n hik, upL_n hik, va_up_n hik]; exact v1 i hi
  all_goals simp only [px_put_self, px_put_ne, h100, h102, h103, h104, h105, h106, h107, h108, h109, h110, Nat.reduceEqDiff, not_false_eq_true, Option.map_some]
set_option maxRecDepth 100000 in
set_option maxHeartbeats 4000000 in
theorem c_N_lead2 {a b : Nat} (ha40 : a < 40) (hb40 : b < 40) (hpl : pl ≤ 128) (h : mP m0 F ha pl ip ir tk fl fh ph) (hQ : ∀ ph', fr FP ph ph' → mP m0 F ha pl ip ir tk (pLk pl (F a) (F b).1 fl) (pLk pl (F a) (F b).2.1 fh) ph' → Q none ph') : px_Met G mX12_lead d 0 0 [.ref 100, .int (nI a), .int (nI b)] ph Q := by
  obtain ⟨m, em, ha', tk', f1, f2, f3, f4, ⟨h100, e1, e1'⟩, ⟨h105, h106, h107, h108, h109⟩, ⟨h110, h102, h103, h104⟩, v1, v2⟩ := h
  obtain ⟨a1, a2, a3, a4, a5⟩ := v1 a ha40
  obtain ⟨b1, b2, b3, b4, b5⟩ := v1 b hb40
  refine px_start kX12_lead (Nat.le_of_ble_eq_true rfl) ?_
  show px_W G _ _ _ _ _ 0 0 0 [some (.ref 100), some (.int (nI a)), some (.int (nI b)), none, none] [] ph
  have loop : ∀ (r i : Nat) (f g : Nat → Int64) (x4 : Option Value), i + r = pl → (∀ j, f j = if j < i ∧ eA (F a) j = true then fl j ||| (F b).1 else fl j) → (∀ j, g j = if j < i ∧ eA (F a) j = true then fh j ||| (F b).2.1 else fh j) → px_W G mX12_lead d 0 0 Q 0 0 2 [some (.ref 100), some (.int (nI a)), some (.int (nI b)), some (.int (nI i)), x4] [] ((ph.set 103 (LA 128 f)).set 104 (LA 128 g)) := by
    intro r
    induction r with
    | zero =>
      intro i f g x4 hi hf hg
      have hip : i = pl := by omega
      subst hip
      have ef : f = pLk i (F a) (F b).1 fl := funext hf
      have eg : g = pLk i (F a) (F b).2.1 fh := funext hg
      rw [ef, eg]
      (repeat (first | (refine px_st rfl rfl ?_; simp only [px_wp, px_at, px_set, px_set2, px_clr, px_ldi, px_ldl, px_lda, px_i1, px_i2, px_l1, px_l2, px_il, px_a1, px_r1, px_r2, px_ir, px_vir, px_g, px_v1, px_v2, px_gf, px_pf, px_ps, px_ar, px_nth, px_upd, px_zero, px_dfl, px_put_self, px_put_ne, px_sw, nI_add, pk_mul, true_and, and_true, Nat.reduceAdd, Nat.reduceLT, Nat.reduceEqDiff, List.length_cons, List.length_nil, true_or, or_true, List.set_set, ne_eq, not_false_eq_true, Fin.isValue, Fin.val_zero, Fin.val_one, Fin.val_two, reduceCtorEq, Option.map_some, List.length_set, Nat.zero_lt_succ, Option.toList_some, Option.toList_none, List.cons_append, List.nil_append, px_b_2, IA, LA, BA, ZA, QA, PT, DR, TL, MC, CD, CC, false_and, or_false, false_or, nar_b, nar_0, nar_1, nar_y, h100, g_places, e1]) | (refine ⟨_, rfl, by omega, ?_⟩) | (refine ⟨fun h => absurd h (nI_nlt (by omega) (by omega)), fun _ => ?_⟩) | (refine ⟨fun _ => ?_, fun h => absurd h (nI_nlt (by omega) (by omega))⟩) | (refine ⟨fun h => absurd (nI_lt (by omega) (by omega)) h, fun _ => ?_⟩) | (refine ⟨fun _ => ?_, fun h => absurd (nI_lt (by omega) (by omega)) h⟩) | (refine ⟨fun h => absurd ((nI_eq (by omega) (by omega)).mp h) (by omega), fun _ => ?_⟩) | (refine ⟨fun _ => ?_, fun h => absurd ((nI_eq (by omega) (by omega)).mp h) (by omega)⟩) | (refine ⟨fun h => absurd h (by decide), fun _ => ?_⟩) | (refine ⟨fun _ => ?_, fun h => absurd h (by decide)⟩) | (refine ⟨fun h => absurd rfl h, fun _ => ?_⟩) | (refine ⟨fun _ => ?_, fun h => absurd rfl h⟩)))
      refine px_return rfl rfl (Nat.le_refl _) (Nat.le_refl _) (hQ _ (fp_set (fp_set fr_id rfl) rfl) ⟨m, em, ha', tk', f1, f2, f3, f4, ⟨?_, e1, e1'⟩, ⟨?_, ?_, ?_, ?_, ?_⟩, ⟨?_, ?_, ?_, ?_⟩, v1, v2⟩)
      all_goals simp only [px_put_self, px_put_ne, h100, h102, h103, h104, h105, h106, h107, h108, h109, h110, Nat.reduceEqDiff, not_false_eq_true, Option.map_some]
    | succ r ih =>
      intro i f g x4 hi hf hg
      have hrem : nI i - nI i / nI 64 * nI 64 = nI (i % 64) := pk_rem (by omega) (by omega) (by omega)
      have back : ∀ (x : Int64), bitL x (i % 64) = eA (F a) i → px_W G mX12_lead d 0 0 Q 0 0 31 [some (.ref 100), some (.int (nI a)), some (.int (nI b)), some (.int (nI i)), x4] [.long x] ((ph.set 103 (LA 128 f)).set 104 (LA 128 g)) := by
        intro x hx
        have hbt := bt_shr (x := x) (j := i % 64) (Nat.mod_lt _ (by decide))
        cases he : eA (F a) i with
        | false =>
          have hih := ih (i + 1) f g (some (.int (nI 0))) (by omega) (fun j => by
            rw [hf j]
            by_cases hj : j = i
            · subst hj; rw [if_neg (by omega), if_neg (fun z => by rw [he] at z; cases z.2)]
            · by_cases h1 : j < i ∧ eA (F a) j = true
              · rw [if_pos h1, if_pos ⟨by omega, h1.2⟩]
              · rw [if_neg h1, if_neg (fun z => h1 ⟨by omega, z.2⟩)]) (fun j => by
            rw [hg j]
            by_cases hj : j = i
            · subst hj; rw [if_neg (by omega), if_neg (fun z => by rw [he] at z; cases z.2)]
            · by_cases h1 : j < i ∧ eA (F a) j = true
              · rw [if_pos h1, if_pos ⟨by omega, h1.2⟩]
              · rw [if_neg h1, if_neg (fun z => h1 ⟨by omega, z.2⟩)])
          have hne : ¬ lg_cmp (x >>> ((nI (i % 64)).toInt64 &&& 63) &&& lN 1) (lN 1) = nI 0 := fun q => by
            rw [lg_cmp_0, hbt, hx, he] at q; cases q
          (repeat (first | (first | exact hih | refine ⟨by decide, ?_⟩ | refine ⟨fun _ => ?_, fun q => absurd q hne⟩) | (refine px_st rfl rfl ?_; simp only [px_wp, px_at, px_set, px_set2, px_clr, px_ldi, px_ldl, px_lda, px_i1, px_i2, px_l1, px_l2, px_il, px_a1, px_r1, px_r2, px_ir, px_vir, px_g, px_v1, px_v2, px_gf, px_pf, px_ps, px_ar, px_nth, px_upd, px_zero, px_dfl, px_put_self, px_put_ne, px_sw, nI_add, pk_mul, true_and, and_true, Nat.reduceAdd, Nat.reduceLT, Nat.reduceEqDiff, List.length_cons, List.length_nil, true_or, or_true, List.set_set, ne_eq, not_false_eq_true, Fin.isValue, Fin.val_zero, Fin.val_one, Fin.val_two, reduceCtorEq, Option.map_some, List.length_set, Nat.zero_lt_succ, Option.toList_some, Option.toList_none, List.cons_append, List.nil_append, px_b_2, IA, LA, BA, ZA, QA, PT, DR, TL, MC, CD, CC, false_and, or_false, false_or, nar_b, nar_0, nar_1, nar_y, hrem]) | (refine ⟨_, rfl, by omega, ?_⟩) | (refine ⟨fun h => absurd h (nI_nlt (by omega) (by omega)), fun _ => ?_⟩) | (refine ⟨fun _ => ?_, fun h => absurd h (nI_nlt (by omega) (by omega))⟩) | (refine ⟨fun h => absurd (nI_lt (by omega) (by omega)) h, fun _ => ?_⟩) | (refine ⟨fun _ => ?_, fun h => absurd (nI_lt (by omega) (by omega)) h⟩) | (refine ⟨fun h => absurd ((nI_eq (by omega) (by omega)).mp h) (by omega), fun _ => ?_⟩) | (refine ⟨fun _ => ?_, fun h => absurd ((nI_eq (by omega) (by omega)).mp h) (by omega)⟩) | (refine ⟨fun h => absurd h (by decide), fun _ => ?_⟩) | (refine ⟨fun _ => ?_, fun h => absurd h (by decide)⟩) | (refine ⟨fun h => absurd rfl h, fun _ => ?_⟩) | (refine ⟨fun _ => ?_, fun h => absurd rfl h⟩)))
        | true =>
          have hih := ih (i + 1) (vp_updL f i (f i ||| (F b).1)) (vp_updL g i (g i ||| (F b).2.1)) (some (.int (nI 1))) (by omega) (fun j => by
            unfold vp_updL
            by_cases hj : j = i
            · subst hj; rw [if_pos rfl, if_pos ⟨by omega, he⟩, hf j, if_neg (by omega)]
            · rw [if_neg hj, hf j]
              by_cases h1 : j < i ∧ eA (F a) j = true
              · rw [if_pos h1, if_pos ⟨by omega, h1.2⟩]
              · rw [if_neg h1, if_neg (fun z => h1 ⟨by omega, z.2⟩)]) (fun j => by
            unfold vp_updL
            by_cases hj : j = i
            · subst hj; rw [if_pos rfl, if_pos ⟨by omega, he⟩, hg j, if_neg (by omega)]
            · rw [if_neg hj, hg j]
              by_cases h1 : j < i ∧ eA (F a) j = true
              · rw [if_pos h1, if_pos ⟨by omega, h1.2⟩]
              · rw [if_neg h1, if_neg (fun z => h1 ⟨by omega, z.2⟩)])
          have heq : lg_cmp (x >>> ((nI (i % 64)).toInt64 &&& 63) &&& lN 1) (lN 1) = nI 0 := by
            rw [lg_cmp_0, hbt, hx, he]
          (repeat (first | (first | exact hih | refine ⟨by decide, ?_⟩) | (refine px_st rfl rfl ?_; simp only [px_wp, px_at, px_set, px_set2, px_clr, px_ldi, px_ldl, px_lda, px_i1, px_i2, px_l1, px_l2, px_il, px_a1, px_r1, px_r2, px_ir, px_vir, px_g, px_v1, px_v2, px_gf, px_pf, px_ps, px_ar, px_nth, px_upd, px_zero, px_dfl, px_put_self, px_put_ne, px_sw, nI_add, pk_mul, true_and, and_true, Nat.reduceAdd, Nat.reduceLT, Nat.reduceEqDiff, List.length_cons, List.length_nil, true_or, or_true, List.set_set, ne_eq, not_false_eq_true, Fin.isValue, Fin.val_zero, Fin.val_one, Fin.val_two, reduceCtorEq, Option.map_some, List.length_set, Nat.zero_lt_succ, Option.toList_some, Option.toList_none, List.cons_append, List.nil_append, px_b_2, IA, LA, BA, ZA, QA, PT, DR, TL, MC, CD, CC, false_and, or_false, false_or, nar_b, nar_0, nar_1, nar_y, hrem, heq, h100, g_followLow, g_followHigh, g_firstLow, g_firstHigh, h103, h104, h106, h107, b2, b3]) | (refine ⟨_, rfl, by omega, ?_⟩) | (refine ⟨fun h => absurd h (nI_nlt (by omega) (by omega)), fun _ => ?_⟩) | (refine ⟨fun _ => ?_, fun h => absurd h (nI_nlt (by omega) (by omega))⟩) | (refine ⟨fun h => absurd (nI_lt (by omega) (by omega)) h, fun _ => ?_⟩) | (refine ⟨fun _ => ?_, fun h => absurd (nI_lt (by omega) (by omega)) h⟩) | (refine ⟨fun h => absurd ((nI_eq (by omega) (by omega)).mp h) (by omega), fun _ => ?_⟩) | (refine ⟨fun _ => ?_, fun h => absurd ((nI_eq (by omega) (by omega)).mp h) (by omega)⟩) | (refine ⟨fun h => absurd h (by decide), fun _ => ?_⟩) | (refine ⟨fun _ => ?_, fun h => absurd h (by decide)⟩) | (refine ⟨fun h => absurd rfl h, fun _ => ?_⟩) | (refine ⟨fun _ => ?_, fun h => absurd rfl h⟩)))
      rcases Nat.lt_or_ge i 64 with h64 | h64
      · have hb := back (F a).2.2.1 (by unfold eA; rw [if_pos h64])
        (repeat (first | (exact hb) | (refine px_st rfl rfl ?_; simp only [px_wp, px_at, px_set, px_set2, px_clr, px_ldi, px_ldl, px_lda, px_i1, px_i2, px_l1, px_l2, px_il, px_a1, px_r1, px_r2, px_ir, px_vir, px_g, px_v1, px_v2, px_gf, px_pf, px_ps, px_ar, px_nth, px_upd, px_zero, px_dfl, px_put_self, px_put_ne, px_sw, nI_add, pk_mul, true_and, and_true, Nat.reduceAdd, Nat.reduceLT, Nat.reduceEqDiff, List.length_cons, List.length_nil, true_or, or_true, List.set_set, ne_eq, not_false_eq_true, Fin.isValue, Fin.val_zero, Fin.val_one, Fin.val_two, reduceCtorEq, Option.map_some, List.length_set, Nat.zero_lt_succ, Option.toList_some, Option.toList_none, List.cons_append, List.nil_append, px_b_2, IA, LA, BA, ZA, QA, PT, DR, TL, MC, CD, CC, false_and, or_false, false_or, nar_b, nar_0, nar_1, nar_y, h100, g_places, e1, g_lastLow, h108, a4]) | (refine ⟨_, rfl, by omega, ?_⟩) | (refine ⟨fun h => absurd h (nI_nlt (by omega) (by omega)), fun _ => ?_⟩) | (refine ⟨fun _ => ?_, fun h => absurd h (nI_nlt (by omega) (by omega))⟩) | (refine ⟨fun h => absurd (nI_lt (by omega) (by omega)) h, fun _ => ?_⟩) | (refine ⟨fun _ => ?_, fun h => absurd (nI_lt (by omega) (by omega)) h⟩) | (refine ⟨fun h => absurd ((nI_eq (by omega) (by omega)).mp h) (by omega), fun _ => ?_⟩) | (refine ⟨fun _ => ?_, fun h => absurd ((nI_eq (by omega) (by omega)).mp h) (by omega)⟩) | (refine ⟨fun h => absurd h (by decide), fun _ => ?_⟩) | (refine ⟨fun _ => ?_, fun h => absurd h (by decide)⟩) | (refine ⟨fun h => absurd rfl h, fun _ => ?_⟩) | (refine ⟨fun _ => ?_, fun h => absurd rfl h⟩)))
      · have hb := back (F a).2.2.2.1 (by unfold eA; rw [if_neg (by omega)])
        (repeat (first | (first | exact hb | (rw [a5]; exact hb)) | (refine px_st rfl rfl ?_; simp only [px_wp, px_at, px_set, px_set2, px_clr, px_ldi, px_ldl, px_lda, px_i1, px_i2, px_l1, px_l2, px_il, px_a1, px_r1, px_r2, px_ir, px_vir, px_g, px_v1, px_v2, px_gf, px_pf, px_ps, px_ar, px_nth, px_upd, px_zero, px_dfl, px_put_self, px_put_ne, px_sw, nI_add, pk_mul, true_and, and_true, Nat.reduceAdd, Nat.reduceLT, Nat.reduceEqDiff, List.length_cons, List.length_nil, true_or, or_true, List.set_set, ne_eq, not_false_eq_true, Fin.isValue, Fin.val_zero, Fin.val_one, Fin.val_two, reduceCtorEq, Option.map_some, List.length_set, Nat.zero_lt_succ, Option.toList_some, Option.toList_none, List.cons_append, List.nil_append, px_b_2, IA, LA, BA, ZA, QA, PT, DR, TL, MC, CD, CC, false_and, or_false, false_or, nar_b, nar_0, nar_1, nar_y, h100, g_places, e1, g_lastHigh, h109, a5]) | (refine ⟨_, rfl, by omega, ?_⟩) | (refine ⟨fun h => absurd h (nI_nlt (by omega) (by omega)), fun _ => ?_⟩) | (refine ⟨fun _ => ?_, fun h => absurd h (nI_nlt (by omega) (by omega))⟩) | (refine ⟨fun h => absurd (nI_lt (by omega) (by omega)) h, fun _ => ?_⟩) | (refine ⟨fun _ => ?_, fun h => absurd (nI_lt (by omega) (by omega)) h⟩) | (refine ⟨fun h => absurd ((nI_eq (by omega) (by omega)).mp h) (by omega), fun _ => ?_⟩) | (refine ⟨fun _ => ?_, fun h => absurd ((nI_eq (by omega) (by omega)).mp h) (by omega)⟩) | (refine ⟨fun h => absurd h (by decide), fun _ => ?_⟩) | (refine ⟨fun _ => ?_, fun h => absurd h (by decide)⟩) | (refine ⟨fun h => absurd rfl h, fun _ => ?_⟩) | (refine ⟨fun _ => ?_, fun h => absurd rfl h⟩)))
  have hl := loop pl 0 fl fh none (by omega) (fun j => by rw [if_neg (by omega)]) (fun j => by rw [if_neg (by omega)])
  rw [px_put_id h103, px_put_id h104] at hl
  (repeat (first | (exact hl) | (refine ⟨_, rfl, by omega, ?_⟩) | (refine px_st rfl rfl ?_; simp only [px_wp, px_at, px_set, px_set2, px_clr, px_ldi, px_ldl, px_lda, px_i1, px_i2, px_l1, px_l2, px_il, px_a1, px_r1, px_r2, px_ir, px_vir, px_g, px_v1, px_v2, px_gf, px_pf, px_ps, px_ar, px_nth, px_upd, px_zero, px_dfl, px_put_self, px_put_ne, px_sw, nI_add, pk_mul, true_and, and_true, Nat.reduceAdd, Nat.reduceLT, Nat.reduceEqDiff, List.length_cons, List.length_nil, true_or, or_true, List.set_set, ne_eq, not_false_eq_true, Fin.isValue, Fin.val_zero, Fin.val_one, Fin.val_two, reduceCtorEq, Option.map_some, List.length_set, Nat.zero_lt_succ, Option.toList_some, Option.toList_none, List.cons_append, List.nil_append, px_b_2, IA, LA, BA, ZA, QA, PT, DR, TL, MC, CD, CC, false_and, or_false, false_or, nar_b, nar_0, nar_1, nar_y])))
end MPR
