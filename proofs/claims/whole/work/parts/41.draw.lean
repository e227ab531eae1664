/-- the Model's cells -/
def mD (m0 : Nat → Int32) (s : DS) (ph : List px_E) : Prop := match s with
  | (x, (ob, kd, ow, la, st, br), (va, bn, bg), (t0, t1, t2, t3)) => ∃ m kd' ow' st' la' br' va' bg' g0 g1 g2 g3 : Nat → Int32, (ph[100]? = some (MD m) ∧ m 21 = nI ob ∧ m 22 = nI bn ∧ m 23 = x ∧ ∀ j, j < 21 → m j = m0 j) ∧ (ph[142]? = some (IA 201 kd') ∧ ph[143]? = some (IA 201 ow') ∧ ph[144]? = some (IA 201 st') ∧ ph[145]? = some (IA 201 la') ∧ ph[146]? = some (ZA 201 br') ∧ ph[147]? = some (IA 6 va') ∧ ph[148]? = some (IA 201 bg')) ∧ (ph[149]? = some (IA 4 g0) ∧ ph[150]? = some (IA 48 g1) ∧ ph[151]? = some (IA 48 g2) ∧ ph[152]? = some (IA 576 g3)) ∧ (∀ i, i < 6 → va' i = mnum (va i)) ∧ (∀ i, i < ob → kd' i = nI (kd i) ∧ ow' i = mnum (ow i) ∧ la' i = mnum (la i) ∧ st' i = nI (st i) ∧ br' i = px_b (br i)) ∧ (∀ i, i < bn → bg' i = nI (bg i)) ∧ (∀ i, i < 4 → g0 i = t0 i) ∧ (∀ i, i < 48 → g1 i = t1 i) ∧ (∀ i, i < 48 → g2 i = t2 i) ∧ ∀ i, i < 576 → g3 i = t3 i
theorem mD_100 {m0 : Nat → Int32} {s : DS} {ph : List px_E} (h : mD m0 s ph) : ∃ m, ph[100]? = some (MD m) ∧ m 21 = nI s.2.1.1 ∧ m 22 = nI s.2.2.1.2.1 ∧ m 23 = s.1 ∧ ∀ j, j < 21 → m j = m0 j := by
  obtain ⟨x, ⟨ob, kd, ow, la, st, br⟩, ⟨va, bn, bg⟩, ⟨t0, t1, t2, t3⟩⟩ := s
  obtain ⟨m, kd', ow', st', la', br', va', bg', g0, g1, g2, g3, h1, -⟩ := h
  exact ⟨m, h1⟩
theorem mD_147 {m0 : Nat → Int32} {s : DS} {ph : List px_E} (h : mD m0 s ph) : ∃ va', ph[147]? = some (IA 6 va') ∧ ∀ i, i < 6 → va' i = mnum (s.2.2.1.1 i) := by
  obtain ⟨x, ⟨ob, kd, ow, la, st, br⟩, ⟨va, bn, bg⟩, ⟨t0, t1, t2, t3⟩⟩ := s
  obtain ⟨m, kd', ow', st', la', br', va', bg', g0, g1, g2, g3, -, ⟨-, -, -, -, -, h, -⟩, -, v1, -⟩ := h
  exact ⟨va', h, v1⟩
theorem up_ne {m : Nat → Int32} {k j : Nat} {v : Int32} (h : ¬ j = k) : upd m k v j = m j := if_neg h
theorem mD_va {m0 : Nat → Int32} {v : Nat} {x : Int32} {obs : OB} {va : Nat → Option Nat} {bb : Nat × (Nat → Nat)} {t : TY} {w : Option Nat} {ph : List px_E} {va' : Nat → Int32} (h : mD m0 (x, obs, (va, bb), t) ph) (h147 : ph[147]? = some (IA 6 va')) : mD m0 (x, obs, (va_up va v w, bb), t) (ph.set 147 (IA 6 (upd va' v (mnum w)))) := by
  obtain ⟨ob, kd, ow, la, st, br⟩ := obs
  obtain ⟨bn, bg⟩ := bb
  obtain ⟨t0, t1, t2, t3⟩ := t
  obtain ⟨m, kd', ow', st', la', br', va2, bg', g0, g1, g2, g3, ⟨h100, e1, e2, e3, e4⟩, ⟨h142, h143, h144, h145, h146, g147, h148⟩, ⟨h149, h150, h151, h152⟩, v1, v2⟩ := h
  rw [h147] at g147
  cases g147
  refine ⟨m, kd', ow', st', la', br', upd va' v (mnum w), bg', g0, g1, g2, g3, ⟨?_, e1, e2, e3, e4⟩, ⟨?_, ?_, ?_, ?_, ?_, ?_, ?_⟩, ⟨?_, ?_, ?_, ?_⟩, fun i hi => ?_, v2⟩
  rotate_right 1
  · by_cases hiv : i = v
    · subst hiv; rw [pk_us, va_up_s]
    · rw [va_up_n hiv]; unfold upd; rw [if_neg hiv]; exact v1 i hi
  all_goals simp only [px_put_self, px_put_ne, h100, h142, h143, h144, h145, h146, h147, h148, h149, h150, h151, h152, Nat.reduceEqDiff, not_false_eq_true, Option.map_some]
theorem mnum_some {o : Option Nat} {j : Nat} (hj : j < 2 ^ 31) (h : ∀ i, o = some i → i < 2 ^ 31) : mnum o = nI j ↔ o = some j := by
  constructor
  · intro q
    cases o with
    | none => exact absurd q.symm (nI_n1 hj)
    | some i => rw [(nI_eq (h i rfl) hj).mp q]
  · intro q; rw [q]; rfl
/-- all cells but the Model's drawn runs -/
def FN : Nat → px_E → Prop := fun k _ => decide (k = 100 ∨ (142 ≤ k ∧ k ≤ 152)) = false
theorem fn_set {ph ph' : List px_E} {k : Nat} {x : px_E} (h : fr FN ph ph') (hk : decide (k = 100 ∨ (142 ≤ k ∧ k ≤ 152)) = true) : fr FN ph (ph'.set k x) := fun j e p q => by
  have hne : ¬ k = j := fun z => by
    subst z
    have p : decide (k = 100 ∨ (142 ≤ k ∧ k ≤ 152)) = false := p
    rw [hk] at p
    cases p
  rw [px_put_ne hne]
  exact h j e p q
theorem FN_ne {k : Nat} {e : px_E} (h : decide (k = 100 ∨ (142 ≤ k ∧ k ≤ 152)) = false) : FN k e := h
theorem FN_7 : ∀ k e, grp k = 7 → FN k e := fun k e h => by
  refine FN_ne (decide_eq_false (fun q => ?_))
  rcases q with q | q
  · subst q; cases h
  · unfold grp at h
    rw [if_neg (by omega), if_neg (by omega), if_neg (by omega), if_neg (by omega), if_neg (by omega), if_neg (by omega), if_neg (by omega), if_neg (by omega), if_neg (by omega), if_neg (by omega), if_neg (by omega), if_neg (by omega), if_neg (by omega), if_neg (by omega), if_neg (by omega), if_neg (by omega), if_neg (by omega), if_neg (by omega), if_pos (by omega)] at h
    cases h
theorem FN_g {ph ph' : List px_E} (h : fr FN ph ph') : fr (FR [9, 10]) ph ph' := fr_mono h (fun k e p => by
  refine FN_ne (decide_eq_false (fun q => ?_))
  have p : [9, 10].contains (grp k) = false := p
  rcases q with q | q
  · subst q; cases p
  · have hg : grp k = 9 := by
      unfold grp
      rw [if_neg (by omega), if_neg (by omega), if_neg (by omega), if_neg (by omega), if_neg (by omega), if_neg (by omega), if_neg (by omega), if_neg (by omega), if_neg (by omega), if_neg (by omega), if_neg (by omega), if_neg (by omega), if_neg (by omega), if_neg (by omega), if_neg (by omega), if_neg (by omega), if_neg (by omega), if_neg (by omega), if_pos (by omega)]
    rw [hg] at p
    cases p)
section MDR
variable {G : px_G} {ph : List px_E} {d : Nat} {Q : Option Value → List px_E → Prop} {sn n mi : Nat} {nx : Nat → Nat → Option Nat} {en : Nat → Bool} {m0 fl fe : Nat → Int32}
set_option maxRecDepth 100000 in
set_option maxHeartbeats 4000000 in
theorem c_N_drawNext {s : DS} (h : mD m0 s ph) (hQ : ∀ ph', fr FN ph ph' → mD m0 (drX s.1, s.2) ph' → Q (some (.int (nI (drN (drX s.1))))) ph') : px_Met G mX12_drawNext d 0 0 [.ref 100] ph Q := by
  obtain ⟨x, ⟨ob, kd, ow, la, st, br⟩, ⟨va, bn, bg⟩, ⟨t0, t1, t2, t3⟩⟩ := s
  obtain ⟨m, kd', ow', st', la', br', va', bg', g0, g1, g2, g3, ⟨h100, e1, e2, e3, e4⟩, ⟨h142, h143, h144, h145, h146, h147, h148⟩, ⟨h149, h150, h151, h152⟩, hv⟩ := h
  refine px_start kX12_drawNext (Nat.le_of_ble_eq_true rfl) ?_
  show px_W G _ _ _ _ _ 0 0 0 [some (.ref 100)] [] ph
  have e16 : ∀ y : Int32, U8 y 16 = nI (drN y) := fun y => by
    have h1 := U8_n (v := y) (s := 16) (by omega)
    apply Int32.toBitVec_inj.mp
    apply BitVec.eq_of_toNat_eq
    rw [h1]
    show _ = (BitVec.ofNat 32 (drN y)).toNat
    have hy : y.toBitVec.toNat < 2 ^ 32 := y.toBitVec.isLt
    rw [BitVec.toNat_ofNat]
    unfold drN
    omega
  have hx : x * nI 1103515245 + nI 12345 = drX x := by unfold drX; rfl
  (repeat (first | (refine px_st rfl rfl ?_; simp only [px_wp, px_at, px_set, px_set2, px_clr, px_ldi, px_ldl, px_lda, px_i1, px_i2, px_l1, px_l2, px_il, px_a1, px_r1, px_r2, px_ir, px_vir, px_g, px_v1, px_v2, px_gf, px_pf, px_ps, px_ar, px_nth, px_upd, px_zero, px_dfl, px_put_self, px_put_ne, px_sw, nI_add, pk_mul, true_and, and_true, Nat.reduceAdd, Nat.reduceLT, Nat.reduceEqDiff, List.length_cons, List.length_nil, true_or, or_true, List.set_set, ne_eq, not_false_eq_true, Fin.isValue, Fin.val_zero, Fin.val_one, Fin.val_two, reduceCtorEq, Option.map_some, List.length_set, Nat.zero_lt_succ, Option.toList_some, Option.toList_none, List.cons_append, List.nil_append, px_b_2, IA, LA, BA, ZA, QA, PT, DR, TL, MC, CD, CC, false_and, or_false, false_or, nar_b, nar_0, nar_1, nar_y, h100, g_drawn, p_drawn, md_len, e3, U8_f, e16, pk_us, hx]) | (refine ⟨_, rfl, by omega, ?_⟩) | (refine ⟨fun h => absurd h (nI_nlt (by omega) (by omega)), fun _ => ?_⟩) | (refine ⟨fun _ => ?_, fun h => absurd h (nI_nlt (by omega) (by omega))⟩) | (refine ⟨fun h => absurd (nI_lt (by omega) (by omega)) h, fun _ => ?_⟩) | (refine ⟨fun _ => ?_, fun h => absurd (nI_lt (by omega) (by omega)) h⟩) | (refine ⟨fun h => absurd ((nI_eq (by omega) (by omega)).mp h) (by omega), fun _ => ?_⟩) | (refine ⟨fun _ => ?_, fun h => absurd ((nI_eq (by omega) (by omega)).mp h) (by omega)⟩) | (refine ⟨fun h => absurd h (by decide), fun _ => ?_⟩) | (refine ⟨fun _ => ?_, fun h => absurd h (by decide)⟩) | (refine ⟨fun h => absurd rfl h, fun _ => ?_⟩) | (refine ⟨fun _ => ?_, fun h => absurd rfl h⟩)))
  refine px_ireturn rfl (Or.inl rfl) (Nat.le_refl _) (Nat.le_refl _) (hQ _ (fn_set fr_id rfl) ⟨upd m 23 (drX x), kd', ow', st', la', br', va', bg', g0, g1, g2, g3, ⟨?_, (up_ne (by decide)).trans e1, (up_ne (by decide)).trans e2, pk_us, fun j hj => (up_ne (by omega)).trans (e4 j hj)⟩, ⟨?_, ?_, ?_, ?_, ?_, ?_, ?_⟩, ⟨?_, ?_, ?_, ?_⟩, hv⟩)
  all_goals simp only [px_put_self, px_put_ne, h100, h142, h143, h144, h145, h146, h147, h148, h149, h150, h151, h152, Nat.reduceEqDiff, not_false_eq_true, Option.map_some]
set_option maxRecDepth 100000 in
set_option maxHeartbeats 4000000 in
theorem c_N_create {s : DS} {v k : Nat} {o : Option Nat} (hn : n < 200) (hw : wD sn n s) (hv : v < 6) (hk : k < 4) (h : mD m0 s ph) (hQ : ∀ ph', fr FN ph ph' → mD m0 (mkS s v k o) ph' → Q none ph') : px_Met G mX12_create d 0 0 [.ref 100, .int (nI v), .int (nI k), .int (mnum o)] ph Q := by
  obtain ⟨x, ⟨ob, kd, ow, la, st, br⟩, ⟨va, bn, bg⟩, ⟨t0, t1, t2, t3⟩⟩ := s
  obtain ⟨m, kd', ow', st', la', br', va', bg', g0, g1, g2, g3, ⟨h100, e1, e2, e3, e4⟩, ⟨h142, h143, h144, h145, h146, h147, h148⟩, ⟨h149, h150, h151, h152⟩, v1, v2, v3, v4, v5⟩ := h
  have hob := hw.1
  refine px_start kX12_create (Nat.le_of_ble_eq_true rfl) ?_
  show px_W G _ _ _ _ _ 0 0 0 [some (.ref 100), some (.int (nI v)), some (.int (nI k)), some (.int (mnum o)), none] [] ph
  (repeat (first | (refine px_st rfl rfl ?_; simp only [px_wp, px_at, px_set, px_set2, px_clr, px_ldi, px_ldl, px_lda, px_i1, px_i2, px_l1, px_l2, px_il, px_a1, px_r1, px_r2, px_ir, px_vir, px_g, px_v1, px_v2, px_gf, px_pf, px_ps, px_ar, px_nth, px_upd, px_zero, px_dfl, px_put_self, px_put_ne, px_sw, nI_add, pk_mul, true_and, and_true, Nat.reduceAdd, Nat.reduceLT, Nat.reduceEqDiff, List.length_cons, List.length_nil, true_or, or_true, List.set_set, ne_eq, not_false_eq_true, Fin.isValue, Fin.val_zero, Fin.val_one, Fin.val_two, reduceCtorEq, Option.map_some, List.length_set, Nat.zero_lt_succ, Option.toList_some, Option.toList_none, List.cons_append, List.nil_append, px_b_2, IA, LA, BA, ZA, QA, PT, DR, TL, MC, CD, CC, false_and, or_false, false_or, nar_b, nar_0, nar_1, nar_y, h100, g_objects, p_objects, md_len, e1, pk_us, g_objectKind, g_objectOwner, g_objectState, g_objectLast, g_isBroken, g_held, g_countedObjects, h142, h143, h144, h145, h146, h147, h149]) | (refine ⟨_, rfl, by omega, ?_⟩) | (refine ⟨fun h => absurd h (nI_nlt (by omega) (by omega)), fun _ => ?_⟩) | (refine ⟨fun _ => ?_, fun h => absurd h (nI_nlt (by omega) (by omega))⟩) | (refine ⟨fun h => absurd (nI_lt (by omega) (by omega)) h, fun _ => ?_⟩) | (refine ⟨fun _ => ?_, fun h => absurd (nI_lt (by omega) (by omega)) h⟩) | (refine ⟨fun h => absurd ((nI_eq (by omega) (by omega)).mp h) (by omega), fun _ => ?_⟩) | (refine ⟨fun _ => ?_, fun h => absurd ((nI_eq (by omega) (by omega)).mp h) (by omega)⟩) | (refine ⟨fun h => absurd h (by decide), fun _ => ?_⟩) | (refine ⟨fun _ => ?_, fun h => absurd h (by decide)⟩) | (refine ⟨fun h => absurd rfl h, fun _ => ?_⟩) | (refine ⟨fun _ => ?_, fun h => absurd rfl h⟩)))
  refine px_return rfl rfl (Nat.le_refl _) (Nat.le_refl _) (hQ _ (fn_set (fn_set (fn_set (fn_set (fn_set (fn_set (fn_set (fn_set fr_id rfl) rfl) rfl) rfl) rfl) rfl) rfl) rfl) ⟨upd m 21 (nI (ob + 1)), upd kd' ob (nI k), upd ow' ob (mnum o), upd st' ob (nI 0), upd la' ob (-1), upd br' ob (nI 0), upd va' v (nI ob), bg', upd g0 k (g0 k + nI 1), g1, g2, g3, ⟨?_, pk_us, (up_ne (by decide)).trans e2, (up_ne (by decide)).trans e3, fun j hj => (up_ne (by omega)).trans (e4 j hj)⟩, ⟨?_, ?_, ?_, ?_, ?_, ?_, ?_⟩, ⟨?_, ?_, ?_, ?_⟩, fun i hi => ?_, fun i hi => ?_, v3, up_t v4 hk, v5⟩)
  rotate_right 2
  · by_cases hiv : i = v
    · subst hiv; rw [pk_us, va_up_s]; rfl
    · rw [va_up_n hiv]; unfold upd; rw [if_neg hiv]; exact v1 i hi
  · by_cases hio : i = ob
    · subst hio
      rw [pk_us, pk_us, pk_us, pk_us, pk_us, va_up_s, va_up_s, va_up_s, va_up_s, va_up_s]
      exact ⟨rfl, rfl, rfl, rfl, rfl⟩
    · rw [va_up_n hio, va_up_n hio, va_up_n hio, va_up_n hio, va_up_n hio]
      unfold upd
      rw [if_neg hio, if_neg hio, if_neg hio, if_neg hio, if_neg hio]
      exact v2 i (by omega)
  all_goals simp only [px_put_self, px_put_ne, h100, h142, h143, h144, h145, h146, h147, h148, h149, h150, h151, h152, Nat.reduceEqDiff, not_false_eq_true, Option.map_some]
set_option maxRecDepth 100000 in
set_option maxHeartbeats 4000000 in
theorem c_N_happens {s : DS} {i e : Nat} (hn : n ≤ 200) (hmi : mi < 12) (hsn : sn ≤ 24) (hnx : ∀ u, u < sn → ∀ e, e < 24 → ∀ j, nx u e = some j → j < sn) (hfl : ∀ u, u < sn → ∀ e, e < 24 → fl (576 * mi + 24 * u + e) = oI (nx u e)) (h116 : ph[116]? = some (IA 6912 fl)) (hw : wD sn n s) (h : mD m0 s ph) (hi : i < s.2.1.1) (he : e < 24) (hQ : ∀ ph', fr FN ph ph' → mD m0 (s.1, (s.2.1.1, s.2.1.2.1, s.2.1.2.2.1, s.2.1.2.2.2.1, hp1 nx (s.2.1.2.2.2.2.1, s.2.1.2.2.2.2.2) i e), s.2.2) ph' → Q none ph') : px_Met G mX12_happens (d + 1) 0 0 [.ref 100, .int (nI i), .int (nI mi), .int (nI e)] ph Q := by
  obtain ⟨x, ⟨ob, kd, ow, la, st, br⟩, ⟨va, bn, bg⟩, ⟨t0, t1, t2, t3⟩⟩ := s
  obtain ⟨m, kd', ow', st', la', br', va', bg', g0, g1, g2, g3, ⟨h100, e1, e2, e3, e4⟩, ⟨h142, h143, h144, h145, h146, h147, h148⟩, ⟨h149, h150, h151, h152⟩, v1, v2, v3, v4⟩ := h
  obtain ⟨w1, w2, w3, w4, w5⟩ := hw
  have hi : i < ob := hi
  obtain ⟨a1, a2, a3, a4, a5⟩ := v2 i hi
  obtain ⟨b1, b2, b3, b4⟩ := w3 i hi
  have hst : hp1 nx (st, br) i e = if br i then (st, br) else match nx (st i) e with
    | none => (st, va_up br i true)
    | some j => (va_up st i j, br) := rfl
  simp only at hQ
  refine px_start kX12_happens (Nat.le_of_ble_eq_true rfl) ?_
  show px_W G _ _ _ _ _ 0 0 0 [some (.ref 100), some (.int (nI i)), some (.int (nI mi)), some (.int (nI e)), none] [] ph
  have bld : ∀ (st2 br2 : Nat → Int32) (S : Nat → Nat) (B : Nat → Bool), hp1 nx (st, br) i e = (S, B) → (∀ j, j < ob → st2 j = nI (S j) ∧ br2 j = px_b (B j)) → Q none ((ph.set 144 (IA 201 st2)).set 146 (ZA 201 br2)) := by
    intro st2 br2 S B hSB hj
    rw [hSB] at hQ
    refine hQ _ (fn_set (fn_set fr_id rfl) rfl) ⟨m, kd', ow', st2, la', br2, va', bg', g0, g1, g2, g3, ⟨?_, e1, e2, e3, e4⟩, ⟨?_, ?_, ?_, ?_, ?_, ?_, ?_⟩, ⟨?_, ?_, ?_, ?_⟩, v1, fun j hj2 => ?_, v3, v4⟩
    rotate_right 1
    · obtain ⟨y1, y2, y3, y4, y5⟩ := v2 j hj2
      exact ⟨y1, y2, y3, (hj j hj2).1, (hj j hj2).2⟩
    all_goals simp only [px_put_self, px_put_ne, h100, h142, h143, h144, h145, h146, h147, h148, h149, h150, h151, h152, Nat.reduceEqDiff, not_false_eq_true, Option.map_some]
  cases hbr : br i with
  | true =>
    rw [hbr] at a5
    have a5 : br' i = nI 1 := a5
    have hb := bld (upd st' i (st' i)) (upd br' i (nI 1)) st br (by rw [hst, if_pos hbr]) (fun j hj => by
      obtain ⟨y1, y2, y3, y4, y5⟩ := v2 j hj
      by_cases hji : j = i
      · subst hji; rw [pk_us, pk_us, hbr]; exact ⟨y4, rfl⟩
      · unfold upd; rw [if_neg hji, if_neg hji]; exact ⟨y4, y5⟩)
    (repeat (first | (refine px_st rfl rfl ?_; simp only [px_wp, px_at, px_set, px_set2, px_clr, px_ldi, px_ldl, px_lda, px_i1, px_i2, px_l1, px_l2, px_il, px_a1, px_r1, px_r2, px_ir, px_vir, px_g, px_v1, px_v2, px_gf, px_pf, px_ps, px_ar, px_nth, px_upd, px_zero, px_dfl, px_put_self, px_put_ne, px_sw, nI_add, pk_mul, true_and, and_true, Nat.reduceAdd, Nat.reduceLT, Nat.reduceEqDiff, List.length_cons, List.length_nil, true_or, or_true, List.set_set, ne_eq, not_false_eq_true, Fin.isValue, Fin.val_zero, Fin.val_one, Fin.val_two, reduceCtorEq, Option.map_some, List.length_set, Nat.zero_lt_succ, Option.toList_some, Option.toList_none, List.cons_append, List.nil_append, px_b_2, IA, LA, BA, ZA, QA, PT, DR, TL, MC, CD, CC, false_and, or_false, false_or, nar_b, nar_0, nar_1, nar_y, h100, g_isBroken, g_objectState, h144, h146, a5]) | (refine ⟨_, rfl, by omega, ?_⟩) | (refine ⟨fun h => absurd h (nI_nlt (by omega) (by omega)), fun _ => ?_⟩) | (refine ⟨fun _ => ?_, fun h => absurd h (nI_nlt (by omega) (by omega))⟩) | (refine ⟨fun h => absurd (nI_lt (by omega) (by omega)) h, fun _ => ?_⟩) | (refine ⟨fun _ => ?_, fun h => absurd (nI_lt (by omega) (by omega)) h⟩) | (refine ⟨fun h => absurd ((nI_eq (by omega) (by omega)).mp h) (by omega), fun _ => ?_⟩) | (refine ⟨fun _ => ?_, fun h => absurd ((nI_eq (by omega) (by omega)).mp h) (by omega)⟩) | (refine ⟨fun h => absurd h (by decide), fun _ => ?_⟩) | (refine ⟨fun _ => ?_, fun h => absurd h (by decide)⟩) | (refine ⟨fun h => absurd rfl h, fun _ => ?_⟩) | (refine ⟨fun _ => ?_, fun h => absurd rfl h⟩)))
    exact px_return rfl rfl (Nat.le_refl _) (Nat.le_refl _) hb
  | false =>
    rw [hbr] at a5
    have a5 : br' i = nI 0 := a5
    (repeat (first | (refine px_st rfl rfl ?_; simp only [px_wp, px_at, px_set, px_set2, px_clr, px_ldi, px_ldl, px_lda, px_i1, px_i2, px_l1, px_l2, px_il, px_a1, px_r1, px_r2, px_ir, px_vir, px_g, px_v1, px_v2, px_gf, px_pf, px_ps, px_ar, px_nth, px_upd, px_zero, px_dfl, px_put_self, px_put_ne, px_sw, nI_add, pk_mul, true_and, and_true, Nat.reduceAdd, Nat.reduceLT, Nat.reduceEqDiff, List.length_cons, List.length_nil, true_or, or_true, List.set_set, ne_eq, not_false_eq_true, Fin.isValue, Fin.val_zero, Fin.val_one, Fin.val_two, reduceCtorEq, Option.map_some, List.length_set, Nat.zero_lt_succ, Option.toList_some, Option.toList_none, List.cons_append, List.nil_append, px_b_2, IA, LA, BA, ZA, QA, PT, DR, TL, MC, CD, CC, false_and, or_false, false_or, nar_b, nar_0, nar_1, nar_y, h100, g_isBroken, g_objectState, h144, h146, a5, a4]) | (refine ⟨_, rfl, by omega, ?_⟩) | (refine ⟨fun h => absurd h (nI_nlt (by omega) (by omega)), fun _ => ?_⟩) | (refine ⟨fun _ => ?_, fun h => absurd h (nI_nlt (by omega) (by omega))⟩) | (refine ⟨fun h => absurd (nI_lt (by omega) (by omega)) h, fun _ => ?_⟩) | (refine ⟨fun _ => ?_, fun h => absurd (nI_lt (by omega) (by omega)) h⟩) | (refine ⟨fun h => absurd ((nI_eq (by omega) (by omega)).mp h) (by omega), fun _ => ?_⟩) | (refine ⟨fun _ => ?_, fun h => absurd ((nI_eq (by omega) (by omega)).mp h) (by omega)⟩) | (refine ⟨fun h => absurd h (by decide), fun _ => ?_⟩) | (refine ⟨fun _ => ?_, fun h => absurd h (by decide)⟩) | (refine ⟨fun h => absurd rfl h, fun _ => ?_⟩) | (refine ⟨fun _ => ?_, fun h => absurd rfl h⟩)))
    refine px_cV rfl rfl kX12_lead_ rfl (c_N_lead3 (i := mi) (u := st i) (e := e) hmi (by omega) he h100 h116 ?_) (Nat.le_refl _) h100 rfl rfl rfl (Nat.le_of_ble_eq_true rfl) (Nat.zero_le _) (Nat.zero_le _)
    rw [hfl (st i) b4 e he]
    cases hx : nx (st i) e with
    | none =>
      have o1 : oI none = -2 := rfl
      rw [o1]
      have hb := bld (upd st' i (st' i)) (upd br' i (nI 1)) st (va_up br i true) (by rw [hst, if_neg (by rw [hbr]; simp), hx]) (fun j hj => by
        obtain ⟨y1, y2, y3, y4, y5⟩ := v2 j hj
        by_cases hji : j = i
        · subst hji; rw [pk_us, pk_us, va_up_s]; exact ⟨y4, rfl⟩
        · rw [va_up_n hji]; unfold upd; rw [if_neg hji, if_neg hji]; exact ⟨y4, y5⟩)
      (repeat (first | (refine px_st rfl rfl ?_; simp only [px_wp, px_at, px_set, px_set2, px_clr, px_ldi, px_ldl, px_lda, px_i1, px_i2, px_l1, px_l2, px_il, px_a1, px_r1, px_r2, px_ir, px_vir, px_g, px_v1, px_v2, px_gf, px_pf, px_ps, px_ar, px_nth, px_upd, px_zero, px_dfl, px_put_self, px_put_ne, px_sw, nI_add, pk_mul, true_and, and_true, Nat.reduceAdd, Nat.reduceLT, Nat.reduceEqDiff, List.length_cons, List.length_nil, true_or, or_true, List.set_set, ne_eq, not_false_eq_true, Fin.isValue, Fin.val_zero, Fin.val_one, Fin.val_two, reduceCtorEq, Option.map_some, List.length_set, Nat.zero_lt_succ, Option.toList_some, Option.toList_none, List.cons_append, List.nil_append, px_b_2, IA, LA, BA, ZA, QA, PT, DR, TL, MC, CD, CC, false_and, or_false, false_or, nar_b, nar_0, nar_1, nar_y, h100, g_isBroken, g_objectState, h144, h146]) | (refine ⟨_, rfl, by omega, ?_⟩) | (refine ⟨fun h => absurd h (nI_nlt (by omega) (by omega)), fun _ => ?_⟩) | (refine ⟨fun _ => ?_, fun h => absurd h (nI_nlt (by omega) (by omega))⟩) | (refine ⟨fun h => absurd (nI_lt (by omega) (by omega)) h, fun _ => ?_⟩) | (refine ⟨fun _ => ?_, fun h => absurd (nI_lt (by omega) (by omega)) h⟩) | (refine ⟨fun h => absurd ((nI_eq (by omega) (by omega)).mp h) (by omega), fun _ => ?_⟩) | (refine ⟨fun _ => ?_, fun h => absurd ((nI_eq (by omega) (by omega)).mp h) (by omega)⟩) | (refine ⟨fun h => absurd h (by decide), fun _ => ?_⟩) | (refine ⟨fun _ => ?_, fun h => absurd h (by decide)⟩) | (refine ⟨fun h => absurd rfl h, fun _ => ?_⟩) | (refine ⟨fun _ => ?_, fun h => absurd rfl h⟩)))
      exact px_return rfl rfl (Nat.le_refl _) (Nat.le_refl _) hb
    | some j0 =>
      have hj0 := hnx (st i) b4 e he j0 hx
      have o1 : oI (some j0) = nI j0 := rfl
      rw [o1]
      have hb := bld (upd st' i (nI j0)) (upd br' i (nI 0)) (va_up st i j0) br (by rw [hst, if_neg (by rw [hbr]; simp), hx]) (fun j hj => by
        obtain ⟨y1, y2, y3, y4, y5⟩ := v2 j hj
        by_cases hji : j = i
        · subst hji; rw [pk_us, pk_us, va_up_s, hbr]; exact ⟨rfl, rfl⟩
        · rw [va_up_n hji]; unfold upd; rw [if_neg hji, if_neg hji]; exact ⟨y4, y5⟩)
      (repeat (first | (refine px_st rfl rfl ?_; simp only [px_wp, px_at, px_set, px_set2, px_clr, px_ldi, px_ldl, px_lda, px_i1, px_i2, px_l1, px_l2, px_il, px_a1, px_r1, px_r2, px_ir, px_vir, px_g, px_v1, px_v2, px_gf, px_pf, px_ps, px_ar, px_nth, px_upd, px_zero, px_dfl, px_put_self, px_put_ne, px_sw, nI_add, pk_mul, true_and, and_true, Nat.reduceAdd, Nat.reduceLT, Nat.reduceEqDiff, List.length_cons, List.length_nil, true_or, or_true, List.set_set, ne_eq, not_false_eq_true, Fin.isValue, Fin.val_zero, Fin.val_one, Fin.val_two, reduceCtorEq, Option.map_some, List.length_set, Nat.zero_lt_succ, Option.toList_some, Option.toList_none, List.cons_append, List.nil_append, px_b_2, IA, LA, BA, ZA, QA, PT, DR, TL, MC, CD, CC, false_and, or_false, false_or, nar_b, nar_0, nar_1, nar_y, h100, g_isBroken, g_objectState, h144, h146]) | (refine ⟨_, rfl, by omega, ?_⟩) | (refine ⟨fun h => absurd h (nI_nlt (by omega) (by omega)), fun _ => ?_⟩) | (refine ⟨fun _ => ?_, fun h => absurd h (nI_nlt (by omega) (by omega))⟩) | (refine ⟨fun h => absurd (nI_lt (by omega) (by omega)) h, fun _ => ?_⟩) | (refine ⟨fun _ => ?_, fun h => absurd (nI_lt (by omega) (by omega)) h⟩) | (refine ⟨fun h => absurd ((nI_eq (by omega) (by omega)).mp h) (by omega), fun _ => ?_⟩) | (refine ⟨fun _ => ?_, fun h => absurd ((nI_eq (by omega) (by omega)).mp h) (by omega)⟩) | (refine ⟨fun h => absurd h (by decide), fun _ => ?_⟩) | (refine ⟨fun _ => ?_, fun h => absurd h (by decide)⟩) | (refine ⟨fun h => absurd rfl h, fun _ => ?_⟩) | (refine ⟨fun _ => ?_, fun h => absurd rfl h⟩)))
      exact px_return rfl rfl (Nat.le_refl _) (Nat.le_refl _) hb
set_option maxRecDepth 100000 in
set_option maxHeartbeats 4000000 in
theorem c_N_called {s : DS} {o e : Nat} {z : Bool} (hn : n ≤ 200) (hmi : mi < 12) (hsn : sn ≤ 24) (hnx : ∀ u, u < sn → ∀ e, e < 24 → ∀ j, nx u e = some j → j < sn) (hfl : ∀ u, u < sn → ∀ e, e < 24 → fl (576 * mi + 24 * u + e) = oI (nx u e)) (h116 : ph[116]? = some (IA 6912 fl)) (hw : wD sn n s) (h : mD m0 s ph) (ho : o < s.2.1.1) (he : e < 12) (hQ : ∀ ph', fr FN ph ph' → mD m0 (caS nx z s o e) ph' → Q none ph') : px_Met G mX12_called (d + 2) 0 0 [.ref 100, .int (nI o), .int (nI e), .int (nI mi), .int (px_b z)] ph Q := by
  obtain ⟨x, ⟨ob, kd, ow, la, st, br⟩, ⟨va, bn, bg⟩, ⟨t0, t1, t2, t3⟩⟩ := s
  obtain ⟨m, kd', ow', st', la', br', va', bg', g0, g1, g2, g3, ⟨h100, e1, e2, e3, e4⟩, ⟨h142, h143, h144, h145, h146, h147, h148⟩, ⟨h149, h150, h151, h152⟩, v1, v2, v3, v4, v5, v6, v7⟩ := h
  obtain ⟨w1, w2, w3, w4, w5⟩ := hw
  have ho : o < ob := ho
  obtain ⟨a1, a2, a3, a4, a5⟩ := v2 o ho
  obtain ⟨b1, b2, b3, b4⟩ := w3 o ho
  refine px_start kX12_called (Nat.le_of_ble_eq_true rfl) ?_
  show px_W G _ _ _ _ _ 0 0 0 [some (.ref 100), some (.int (nI o)), some (.int (nI e)), some (.int (nI mi)), some (.int (px_b z)), none, none] [] ph
  have rest : ∀ (t1' t3' : Nat → Int32) (x5 : Int32) (ph1 : List px_E), fr FN ph ph1 → mD m0 (x, (ob, kd, ow, la, st, br), (va, bn, bg), (t0, t1', t2, t3')) ph1 → (∀ ph', fr FN ph ph' → mD m0 (x, (ob, kd, ow, va_up la o (some e), (if z then hpL nx ow o (12 + e) ob 0 (hp1 nx (st, br) o e) else hp1 nx (st, br) o e).1, (if z then hpL nx ow o (12 + e) ob 0 (hp1 nx (st, br) o e) else hp1 nx (st, br) o e).2), (va, bn, bg), (t0, t1', t2, t3')) ph' → Q none ph') → px_W G mX12_called (d + 2) 0 0 Q 0 0 59 [some (.ref 100), some (.int (nI o)), some (.int (nI e)), some (.int (nI mi)), some (.int (px_b z)), some (.int x5), none] [] ph1 := by
    intro t1' t3' x5 ph1 hf1 hc1 hQ'
    obtain ⟨m, kd', ow', st', la', br', va', bg', g0, g1, g2, g3, ⟨h100, e1, e2, e3, e4⟩, ⟨h142, h143, h144, h145, h146, h147, h148⟩, ⟨h149, h150, h151, h152⟩, v1, v2, v3, v4, v5⟩ := hc1
    (repeat (first | (refine px_st rfl rfl ?_; simp only [px_wp, px_at, px_set, px_set2, px_clr, px_ldi, px_ldl, px_lda, px_i1, px_i2, px_l1, px_l2, px_il, px_a1, px_r1, px_r2, px_ir, px_vir, px_g, px_v1, px_v2, px_gf, px_pf, px_ps, px_ar, px_nth, px_upd, px_zero, px_dfl, px_put_self, px_put_ne, px_sw, nI_add, pk_mul, true_and, and_true, Nat.reduceAdd, Nat.reduceLT, Nat.reduceEqDiff, List.length_cons, List.length_nil, true_or, or_true, List.set_set, ne_eq, not_false_eq_true, Fin.isValue, Fin.val_zero, Fin.val_one, Fin.val_two, reduceCtorEq, Option.map_some, List.length_set, Nat.zero_lt_succ, Option.toList_some, Option.toList_none, List.cons_append, List.nil_append, px_b_2, IA, LA, BA, ZA, QA, PT, DR, TL, MC, CD, CC, false_and, or_false, false_or, nar_b, nar_0, nar_1, nar_y, h100, g_objectLast, h145]) | (refine ⟨_, rfl, by omega, ?_⟩) | (refine ⟨fun h => absurd h (nI_nlt (by omega) (by omega)), fun _ => ?_⟩) | (refine ⟨fun _ => ?_, fun h => absurd h (nI_nlt (by omega) (by omega))⟩) | (refine ⟨fun h => absurd (nI_lt (by omega) (by omega)) h, fun _ => ?_⟩) | (refine ⟨fun _ => ?_, fun h => absurd (nI_lt (by omega) (by omega)) h⟩) | (refine ⟨fun h => absurd ((nI_eq (by omega) (by omega)).mp h) (by omega), fun _ => ?_⟩) | (refine ⟨fun _ => ?_, fun h => absurd ((nI_eq (by omega) (by omega)).mp h) (by omega)⟩) | (refine ⟨fun h => absurd h (by decide), fun _ => ?_⟩) | (refine ⟨fun _ => ?_, fun h => absurd h (by decide)⟩) | (refine ⟨fun h => absurd rfl h, fun _ => ?_⟩) | (refine ⟨fun _ => ?_, fun h => absurd rfl h⟩)))
    have hc2 : mD m0 (x, (ob, kd, ow, va_up la o (some e), st, br), (va, bn, bg), (t0, t1', t2, t3')) (ph1.set 145 (IA 201 (upd la' o (nI e)))) := by
      refine ⟨m, kd', ow', st', upd la' o (nI e), br', va', bg', g0, g1, g2, g3, ⟨?_, e1, e2, e3, e4⟩, ⟨?_, ?_, ?_, ?_, ?_, ?_, ?_⟩, ⟨?_, ?_, ?_, ?_⟩, v1, fun i hi => ?_, v3, v4, v5⟩
      rotate_right 1
      · obtain ⟨y1, y2, y3, y4, y5⟩ := v2 i hi
        refine ⟨y1, y2, ?_, y4, y5⟩
        by_cases hio : i = o
        · subst hio; rw [pk_us, va_up_s]; rfl
        · rw [va_up_n hio]; unfold upd; rw [if_neg hio]; exact y3
      all_goals simp only [px_put_self, px_put_ne, h100, h142, h143, h144, h145, h146, h147, h148, h149, h150, h151, h152, Nat.reduceEqDiff, not_false_eq_true, Option.map_some]
    have hf2 : fr FN ph (ph1.set 145 (IA 201 (upd la' o (nI e)))) := fn_set hf1 rfl
    have hw2 : wD sn n (x, (ob, kd, ow, va_up la o (some e), st, br), (va, bn, bg), (t0, t1', t2, t3')) := ⟨w1, w2, fun i hi => by
      obtain ⟨y1, y2, y3, y4⟩ := w3 i hi
      refine ⟨y1, y2, fun j hj => ?_, y4⟩
      by_cases hio : i = o
      · subst hio; rw [va_up_s] at hj; cases hj; exact he
      · rw [va_up_n hio] at hj; exact y3 j hj, w4, w5⟩
    have k100 : (ph1.set 145 (IA 201 (upd la' o (nI e))))[100]? = some (MD m) := (px_put_ne (by decide)).trans h100
    refine px_cV rfl rfl kX12_happens rfl (c_N_happens (d := d) hn hmi hsn hnx hfl (hf2 _ _ (FN_ne rfl) h116) hw2 hc2 ho (show e < 24 by omega) (fun ph3 hf3 hc3 => ?_)) (Nat.le_refl _) k100 rfl rfl rfl (Nat.le_of_ble_eq_true rfl) (Nat.zero_le _) (Nat.zero_le _)
    have hc3 : mD m0 (x, (ob, kd, ow, va_up la o (some e), hp1 nx (st, br) o e), (va, bn, bg), (t0, t1', t2, t3')) ph3 := hc3
    have hf3' := fr_tr hf2 hf3
    have hst1 : ∀ j, j < ob → (hp1 nx (st, br) o e).1 j < sn := hp1_lt hnx (by omega) ho (fun j hj => (w3 j hj).2.2.2)
    generalize hp1 nx (st, br) o e = sb at hc3 hQ' hst1
    obtain ⟨TT, hTT⟩ : ∃ TT, hpL nx ow o (12 + e) ob 0 sb = TT := ⟨_, rfl⟩
    have loop : ∀ (r i : Nat) (sb' : (Nat → Nat) × (Nat → Bool)) (ph' : List px_E), i + r = ob → (∀ j, j < ob → sb'.1 j < sn) → hpL nx ow o (12 + e) r i sb' = TT → z = true → fr FN ph ph' → mD m0 (x, (ob, kd, ow, va_up la o (some e), sb'), (va, bn, bg), (t0, t1', t2, t3')) ph' → px_W G mX12_called (d + 2) 0 0 Q 0 0 76 [some (.ref 100), some (.int (nI o)), some (.int (nI e)), some (.int (nI mi)), some (.int (px_b z)), some (.int x5), some (.int (nI i))] [] ph' := by
      intro r
      induction r with
      | zero =>
        intro i sb' ph' hi hlt hL hz' hf' hc'
        have hio : i = ob := by omega
        subst hio
        have hL : sb' = hpL nx ow o (12 + e) i 0 sb := (show sb' = TT from hL).trans hTT.symm
        subst hz'
        have hq := hQ' ph' hf'
        rw [if_pos rfl, ← hL] at hq
        have hq2 := hq hc'
        obtain ⟨m, h100, e1, -⟩ := mD_100 hc'
        have e1 : m 21 = nI i := e1
        (repeat (first | (refine px_st rfl rfl ?_; simp only [px_wp, px_at, px_set, px_set2, px_clr, px_ldi, px_ldl, px_lda, px_i1, px_i2, px_l1, px_l2, px_il, px_a1, px_r1, px_r2, px_ir, px_vir, px_g, px_v1, px_v2, px_gf, px_pf, px_ps, px_ar, px_nth, px_upd, px_zero, px_dfl, px_put_self, px_put_ne, px_sw, nI_add, pk_mul, true_and, and_true, Nat.reduceAdd, Nat.reduceLT, Nat.reduceEqDiff, List.length_cons, List.length_nil, true_or, or_true, List.set_set, ne_eq, not_false_eq_true, Fin.isValue, Fin.val_zero, Fin.val_one, Fin.val_two, reduceCtorEq, Option.map_some, List.length_set, Nat.zero_lt_succ, Option.toList_some, Option.toList_none, List.cons_append, List.nil_append, px_b_2, IA, LA, BA, ZA, QA, PT, DR, TL, MC, CD, CC, false_and, or_false, false_or, nar_b, nar_0, nar_1, nar_y, h100, g_objects, e1]) | (refine ⟨_, rfl, by omega, ?_⟩) | (refine ⟨fun h => absurd h (nI_nlt (by omega) (by omega)), fun _ => ?_⟩) | (refine ⟨fun _ => ?_, fun h => absurd h (nI_nlt (by omega) (by omega))⟩) | (refine ⟨fun h => absurd (nI_lt (by omega) (by omega)) h, fun _ => ?_⟩) | (refine ⟨fun _ => ?_, fun h => absurd (nI_lt (by omega) (by omega)) h⟩) | (refine ⟨fun h => absurd ((nI_eq (by omega) (by omega)).mp h) (by omega), fun _ => ?_⟩) | (refine ⟨fun _ => ?_, fun h => absurd ((nI_eq (by omega) (by omega)).mp h) (by omega)⟩) | (refine ⟨fun h => absurd h (by decide), fun _ => ?_⟩) | (refine ⟨fun _ => ?_, fun h => absurd h (by decide)⟩) | (refine ⟨fun h => absurd rfl h, fun _ => ?_⟩) | (refine ⟨fun _ => ?_, fun h => absurd rfl h⟩)))
        exact px_return rfl rfl (Nat.le_refl _) (Nat.le_refl _) hq2
      | succ r ih =>
        intro i sb' ph' hi hlt hL hz' hf' hc'
        have hc0 := hc'
        have hi' : i < ob := by omega
        subst hz'
        unfold hpL at hL
        obtain ⟨m, kd', ow', st', la', br', va', bg', g0, g1, g2, g3, ⟨h100, e1, e2, e3, e4⟩, ⟨h142, h143, h144, h145, h146, h147, h148⟩, ⟨h149, h150, h151, h152⟩, v1, v2, v3, v4, v5⟩ := hc'
        have hoi := (v2 i hi').2.1
        have hoj := (w3 i hi').2.1
        by_cases how : ow i = some o
        · rw [if_pos how] at hL
          rw [how] at hoi
          have hoi : ow' i = nI o := hoi
          (repeat (first | (refine px_st rfl rfl ?_; simp only [px_wp, px_at, px_set, px_set2, px_clr, px_ldi, px_ldl, px_lda, px_i1, px_i2, px_l1, px_l2, px_il, px_a1, px_r1, px_r2, px_ir, px_vir, px_g, px_v1, px_v2, px_gf, px_pf, px_ps, px_ar, px_nth, px_upd, px_zero, px_dfl, px_put_self, px_put_ne, px_sw, nI_add, pk_mul, true_and, and_true, Nat.reduceAdd, Nat.reduceLT, Nat.reduceEqDiff, List.length_cons, List.length_nil, true_or, or_true, List.set_set, ne_eq, not_false_eq_true, Fin.isValue, Fin.val_zero, Fin.val_one, Fin.val_two, reduceCtorEq, Option.map_some, List.length_set, Nat.zero_lt_succ, Option.toList_some, Option.toList_none, List.cons_append, List.nil_append, px_b_2, IA, LA, BA, ZA, QA, PT, DR, TL, MC, CD, CC, false_and, or_false, false_or, nar_b, nar_0, nar_1, nar_y, h100, g_objects, g_objectOwner, e1, h143, hoi]) | (refine ⟨_, rfl, by omega, ?_⟩) | (refine ⟨fun h => absurd h (nI_nlt (by omega) (by omega)), fun _ => ?_⟩) | (refine ⟨fun _ => ?_, fun h => absurd h (nI_nlt (by omega) (by omega))⟩) | (refine ⟨fun h => absurd (nI_lt (by omega) (by omega)) h, fun _ => ?_⟩) | (refine ⟨fun _ => ?_, fun h => absurd (nI_lt (by omega) (by omega)) h⟩) | (refine ⟨fun h => absurd ((nI_eq (by omega) (by omega)).mp h) (by omega), fun _ => ?_⟩) | (refine ⟨fun _ => ?_, fun h => absurd ((nI_eq (by omega) (by omega)).mp h) (by omega)⟩) | (refine ⟨fun h => absurd h (by decide), fun _ => ?_⟩) | (refine ⟨fun _ => ?_, fun h => absurd h (by decide)⟩) | (refine ⟨fun h => absurd rfl h, fun _ => ?_⟩) | (refine ⟨fun _ => ?_, fun h => absurd rfl h⟩)))
          have hw3 : wD sn n (x, (ob, kd, ow, va_up la o (some e), sb'), (va, bn, bg), (t0, t1', t2, t3')) := ⟨w1, w2, fun j hj => by
            obtain ⟨y1, y2, y3, y4⟩ := hw2.2.2.1 j hj
            exact ⟨y1, y2, y3, hlt j hj⟩, w4, w5⟩
          refine px_cV rfl rfl kX12_happens rfl (c_N_happens (d := d) hn hmi hsn hnx hfl (hf' _ _ (FN_ne rfl) h116) hw3 hc0 hi' (show 12 + e < 24 by omega) (fun ph4 hf4 hc4 => ?_)) (Nat.le_refl _) h100 rfl rfl rfl (Nat.le_of_ble_eq_true rfl) (Nat.zero_le _) (Nat.zero_le _)
          have hc4 : mD m0 (x, (ob, kd, ow, va_up la o (some e), hp1 nx sb' i (12 + e)), (va, bn, bg), (t0, t1', t2, t3')) ph4 := hc4
          have hih := ih (i + 1) (hp1 nx sb' i (12 + e)) ph4 (by omega) (hp1_lt hnx (by omega) hi' hlt) hL rfl (fr_tr hf' hf4) hc4
          (repeat (first | (exact hih) | (refine px_st rfl rfl ?_; simp only [px_wp, px_at, px_set, px_set2, px_clr, px_ldi, px_ldl, px_lda, px_i1, px_i2, px_l1, px_l2, px_il, px_a1, px_r1, px_r2, px_ir, px_vir, px_g, px_v1, px_v2, px_gf, px_pf, px_ps, px_ar, px_nth, px_upd, px_zero, px_dfl, px_put_self, px_put_ne, px_sw, nI_add, pk_mul, true_and, and_true, Nat.reduceAdd, Nat.reduceLT, Nat.reduceEqDiff, List.length_cons, List.length_nil, true_or, or_true, List.set_set, ne_eq, not_false_eq_true, Fin.isValue, Fin.val_zero, Fin.val_one, Fin.val_two, reduceCtorEq, Option.map_some, List.length_set, Nat.zero_lt_succ, Option.toList_some, Option.toList_none, List.cons_append, List.nil_append, px_b_2, IA, LA, BA, ZA, QA, PT, DR, TL, MC, CD, CC, false_and, or_false, false_or, nar_b, nar_0, nar_1, nar_y]) | (refine ⟨_, rfl, by omega, ?_⟩) | (refine ⟨fun h => absurd h (nI_nlt (by omega) (by omega)), fun _ => ?_⟩) | (refine ⟨fun _ => ?_, fun h => absurd h (nI_nlt (by omega) (by omega))⟩) | (refine ⟨fun h => absurd (nI_lt (by omega) (by omega)) h, fun _ => ?_⟩) | (refine ⟨fun _ => ?_, fun h => absurd (nI_lt (by omega) (by omega)) h⟩) | (refine ⟨fun h => absurd ((nI_eq (by omega) (by omega)).mp h) (by omega), fun _ => ?_⟩) | (refine ⟨fun _ => ?_, fun h => absurd ((nI_eq (by omega) (by omega)).mp h) (by omega)⟩) | (refine ⟨fun h => absurd h (by decide), fun _ => ?_⟩) | (refine ⟨fun _ => ?_, fun h => absurd h (by decide)⟩) | (refine ⟨fun h => absurd rfl h, fun _ => ?_⟩) | (refine ⟨fun _ => ?_, fun h => absurd rfl h⟩)))
        · rw [if_neg how] at hL
          have hne2 : ¬ ow' i = nI o := by
            rw [hoi]
            exact fun q => how ((mnum_some (by omega) (fun j hj => by have := hoj j hj; omega)).mp q)
          have hih := ih (i + 1) sb' ph' (by omega) hlt hL rfl hf' hc0
          (repeat (first | (first | exact hih | refine ⟨fun _ => ?_, fun q => absurd q hne2⟩) | (refine px_st rfl rfl ?_; simp only [px_wp, px_at, px_set, px_set2, px_clr, px_ldi, px_ldl, px_lda, px_i1, px_i2, px_l1, px_l2, px_il, px_a1, px_r1, px_r2, px_ir, px_vir, px_g, px_v1, px_v2, px_gf, px_pf, px_ps, px_ar, px_nth, px_upd, px_zero, px_dfl, px_put_self, px_put_ne, px_sw, nI_add, pk_mul, true_and, and_true, Nat.reduceAdd, Nat.reduceLT, Nat.reduceEqDiff, List.length_cons, List.length_nil, true_or, or_true, List.set_set, ne_eq, not_false_eq_true, Fin.isValue, Fin.val_zero, Fin.val_one, Fin.val_two, reduceCtorEq, Option.map_some, List.length_set, Nat.zero_lt_succ, Option.toList_some, Option.toList_none, List.cons_append, List.nil_append, px_b_2, IA, LA, BA, ZA, QA, PT, DR, TL, MC, CD, CC, false_and, or_false, false_or, nar_b, nar_0, nar_1, nar_y, h100, g_objects, g_objectOwner, e1, h143]) | (refine ⟨_, rfl, by omega, ?_⟩) | (refine ⟨fun h => absurd h (nI_nlt (by omega) (by omega)), fun _ => ?_⟩) | (refine ⟨fun _ => ?_, fun h => absurd h (nI_nlt (by omega) (by omega))⟩) | (refine ⟨fun h => absurd (nI_lt (by omega) (by omega)) h, fun _ => ?_⟩) | (refine ⟨fun _ => ?_, fun h => absurd (nI_lt (by omega) (by omega)) h⟩) | (refine ⟨fun h => absurd ((nI_eq (by omega) (by omega)).mp h) (by omega), fun _ => ?_⟩) | (refine ⟨fun _ => ?_, fun h => absurd ((nI_eq (by omega) (by omega)).mp h) (by omega)⟩) | (refine ⟨fun h => absurd h (by decide), fun _ => ?_⟩) | (refine ⟨fun _ => ?_, fun h => absurd h (by decide)⟩) | (refine ⟨fun h => absurd rfl h, fun _ => ?_⟩) | (refine ⟨fun _ => ?_, fun h => absurd rfl h⟩)))
    cases z with
    | true =>
      have hl := loop ob 0 sb ph3 (by omega) hst1 hTT rfl hf3' hc3
      (repeat (first | (exact hl) | (refine px_st rfl rfl ?_; simp only [px_wp, px_at, px_set, px_set2, px_clr, px_ldi, px_ldl, px_lda, px_i1, px_i2, px_l1, px_l2, px_il, px_a1, px_r1, px_r2, px_ir, px_vir, px_g, px_v1, px_v2, px_gf, px_pf, px_ps, px_ar, px_nth, px_upd, px_zero, px_dfl, px_put_self, px_put_ne, px_sw, nI_add, pk_mul, true_and, and_true, Nat.reduceAdd, Nat.reduceLT, Nat.reduceEqDiff, List.length_cons, List.length_nil, true_or, or_true, List.set_set, ne_eq, not_false_eq_true, Fin.isValue, Fin.val_zero, Fin.val_one, Fin.val_two, reduceCtorEq, Option.map_some, List.length_set, Nat.zero_lt_succ, Option.toList_some, Option.toList_none, List.cons_append, List.nil_append, px_b_2, IA, LA, BA, ZA, QA, PT, DR, TL, MC, CD, CC, false_and, or_false, false_or, nar_b, nar_0, nar_1, nar_y]) | (refine ⟨_, rfl, by omega, ?_⟩) | (refine ⟨fun h => absurd h (nI_nlt (by omega) (by omega)), fun _ => ?_⟩) | (refine ⟨fun _ => ?_, fun h => absurd h (nI_nlt (by omega) (by omega))⟩) | (refine ⟨fun h => absurd (nI_lt (by omega) (by omega)) h, fun _ => ?_⟩) | (refine ⟨fun _ => ?_, fun h => absurd (nI_lt (by omega) (by omega)) h⟩) | (refine ⟨fun h => absurd ((nI_eq (by omega) (by omega)).mp h) (by omega), fun _ => ?_⟩) | (refine ⟨fun _ => ?_, fun h => absurd ((nI_eq (by omega) (by omega)).mp h) (by omega)⟩) | (refine ⟨fun h => absurd h (by decide), fun _ => ?_⟩) | (refine ⟨fun _ => ?_, fun h => absurd h (by decide)⟩) | (refine ⟨fun h => absurd rfl h, fun _ => ?_⟩) | (refine ⟨fun _ => ?_, fun h => absurd rfl h⟩)))
    | false =>
      have hq := hQ' ph3 hf3'
      rw [if_neg (by simp)] at hq
      have hq2 := hq hc3
      obtain ⟨m, h100, e1, -⟩ := mD_100 hc3
      have e1 : m 21 = nI ob := e1
      (repeat (first | (refine px_st rfl rfl ?_; simp only [px_wp, px_at, px_set, px_set2, px_clr, px_ldi, px_ldl, px_lda, px_i1, px_i2, px_l1, px_l2, px_il, px_a1, px_r1, px_r2, px_ir, px_vir, px_g, px_v1, px_v2, px_gf, px_pf, px_ps, px_ar, px_nth, px_upd, px_zero, px_dfl, px_put_self, px_put_ne, px_sw, nI_add, pk_mul, true_and, and_true, Nat.reduceAdd, Nat.reduceLT, Nat.reduceEqDiff, List.length_cons, List.length_nil, true_or, or_true, List.set_set, ne_eq, not_false_eq_true, Fin.isValue, Fin.val_zero, Fin.val_one, Fin.val_two, reduceCtorEq, Option.map_some, List.length_set, Nat.zero_lt_succ, Option.toList_some, Option.toList_none, List.cons_append, List.nil_append, px_b_2, IA, LA, BA, ZA, QA, PT, DR, TL, MC, CD, CC, false_and, or_false, false_or, nar_b, nar_0, nar_1, nar_y, h100, g_objects, e1]) | (refine ⟨_, rfl, by omega, ?_⟩) | (refine ⟨fun h => absurd h (nI_nlt (by omega) (by omega)), fun _ => ?_⟩) | (refine ⟨fun _ => ?_, fun h => absurd h (nI_nlt (by omega) (by omega))⟩) | (refine ⟨fun h => absurd (nI_lt (by omega) (by omega)) h, fun _ => ?_⟩) | (refine ⟨fun _ => ?_, fun h => absurd (nI_lt (by omega) (by omega)) h⟩) | (refine ⟨fun h => absurd ((nI_eq (by omega) (by omega)).mp h) (by omega), fun _ => ?_⟩) | (refine ⟨fun _ => ?_, fun h => absurd ((nI_eq (by omega) (by omega)).mp h) (by omega)⟩) | (refine ⟨fun h => absurd h (by decide), fun _ => ?_⟩) | (refine ⟨fun _ => ?_, fun h => absurd h (by decide)⟩) | (refine ⟨fun h => absurd rfl h, fun _ => ?_⟩) | (refine ⟨fun _ => ?_, fun h => absurd rfl h⟩)))
      exact px_return rfl rfl (Nat.le_refl _) (Nat.le_refl _) hq2
  cases hla : la o with
  | none =>
    rw [hla] at a3
    have a3 : la' o = -1 := a3
    have hr := rest (upd t1 (12 * kd o + e) (t1 (12 * kd o + e) + nI 1)) t3 (nI (12 * kd o)) (ph.set 150 (IA 48 (upd g1 (12 * kd o + e) (g1 (12 * kd o + e) + nI 1)))) (fn_set fr_id rfl) (by
      refine ⟨m, kd', ow', st', la', br', va', bg', g0, upd g1 (12 * kd o + e) (g1 (12 * kd o + e) + nI 1), g2, g3, ⟨?_, e1, e2, e3, e4⟩, ⟨?_, ?_, ?_, ?_, ?_, ?_, ?_⟩, ⟨?_, ?_, ?_, ?_⟩, v1, v2, v3, v4, up_t v5 (by omega), v6, v7⟩
      all_goals simp only [px_put_self, px_put_ne, h100, h142, h143, h144, h145, h146, h147, h148, h149, h150, h151, h152, Nat.reduceEqDiff, not_false_eq_true, Option.map_some]) (fun ph' hf' hc' => hQ ph' hf' (by
      unfold caS
      simp only [hla]
      exact hc'))
    (repeat (first | (exact hr) | (refine px_st rfl rfl ?_; simp only [px_wp, px_at, px_set, px_set2, px_clr, px_ldi, px_ldl, px_lda, px_i1, px_i2, px_l1, px_l2, px_il, px_a1, px_r1, px_r2, px_ir, px_vir, px_g, px_v1, px_v2, px_gf, px_pf, px_ps, px_ar, px_nth, px_upd, px_zero, px_dfl, px_put_self, px_put_ne, px_sw, nI_add, pk_mul, true_and, and_true, Nat.reduceAdd, Nat.reduceLT, Nat.reduceEqDiff, List.length_cons, List.length_nil, true_or, or_true, List.set_set, ne_eq, not_false_eq_true, Fin.isValue, Fin.val_zero, Fin.val_one, Fin.val_two, reduceCtorEq, Option.map_some, List.length_set, Nat.zero_lt_succ, Option.toList_some, Option.toList_none, List.cons_append, List.nil_append, px_b_2, IA, LA, BA, ZA, QA, PT, DR, TL, MC, CD, CC, false_and, or_false, false_or, nar_b, nar_0, nar_1, nar_y, h100, g_objectKind, g_objectLast, g_countedFirst, h142, h145, h150, a1, a3]) | (refine ⟨_, rfl, by omega, ?_⟩) | (refine ⟨fun h => absurd h (nI_nlt (by omega) (by omega)), fun _ => ?_⟩) | (refine ⟨fun _ => ?_, fun h => absurd h (nI_nlt (by omega) (by omega))⟩) | (refine ⟨fun h => absurd (nI_lt (by omega) (by omega)) h, fun _ => ?_⟩) | (refine ⟨fun _ => ?_, fun h => absurd (nI_lt (by omega) (by omega)) h⟩) | (refine ⟨fun h => absurd ((nI_eq (by omega) (by omega)).mp h) (by omega), fun _ => ?_⟩) | (refine ⟨fun _ => ?_, fun h => absurd ((nI_eq (by omega) (by omega)).mp h) (by omega)⟩) | (refine ⟨fun h => absurd h (by decide), fun _ => ?_⟩) | (refine ⟨fun _ => ?_, fun h => absurd h (by decide)⟩) | (refine ⟨fun h => absurd rfl h, fun _ => ?_⟩) | (refine ⟨fun _ => ?_, fun h => absurd rfl h⟩)))
  | some l =>
    rw [hla] at a3
    have a3 : la' o = nI l := a3
    have hl12 := b3 l hla
    have hr := rest t1 (upd t3 (12 * (12 * kd o + l) + e) (t3 (12 * (12 * kd o + l) + e) + nI 1)) (nI (12 * kd o)) (ph.set 152 (IA 576 (upd g3 (12 * (12 * kd o + l) + e) (g3 (12 * (12 * kd o + l) + e) + nI 1)))) (fn_set fr_id rfl) (by
      refine ⟨m, kd', ow', st', la', br', va', bg', g0, g1, g2, upd g3 (12 * (12 * kd o + l) + e) (g3 (12 * (12 * kd o + l) + e) + nI 1), ⟨?_, e1, e2, e3, e4⟩, ⟨?_, ?_, ?_, ?_, ?_, ?_, ?_⟩, ⟨?_, ?_, ?_, ?_⟩, v1, v2, v3, v4, v5, v6, up_t v7 (by omega)⟩
      all_goals simp only [px_put_self, px_put_ne, h100, h142, h143, h144, h145, h146, h147, h148, h149, h150, h151, h152, Nat.reduceEqDiff, not_false_eq_true, Option.map_some]) (fun ph' hf' hc' => hQ ph' hf' (by
      unfold caS
      simp only [hla]
      exact hc'))
    (repeat (first | (exact hr) | (refine px_st rfl rfl ?_; simp only [px_wp, px_at, px_set, px_set2, px_clr, px_ldi, px_ldl, px_lda, px_i1, px_i2, px_l1, px_l2, px_il, px_a1, px_r1, px_r2, px_ir, px_vir, px_g, px_v1, px_v2, px_gf, px_pf, px_ps, px_ar, px_nth, px_upd, px_zero, px_dfl, px_put_self, px_put_ne, px_sw, nI_add, pk_mul, true_and, and_true, Nat.reduceAdd, Nat.reduceLT, Nat.reduceEqDiff, List.length_cons, List.length_nil, true_or, or_true, List.set_set, ne_eq, not_false_eq_true, Fin.isValue, Fin.val_zero, Fin.val_one, Fin.val_two, reduceCtorEq, Option.map_some, List.length_set, Nat.zero_lt_succ, Option.toList_some, Option.toList_none, List.cons_append, List.nil_append, px_b_2, IA, LA, BA, ZA, QA, PT, DR, TL, MC, CD, CC, false_and, or_false, false_or, nar_b, nar_0, nar_1, nar_y, h100, g_objectKind, g_objectLast, g_countedNext, h142, h145, h152, a1, a3]) | (refine ⟨_, rfl, by omega, ?_⟩) | (refine ⟨fun h => absurd h (nI_nlt (by omega) (by omega)), fun _ => ?_⟩) | (refine ⟨fun _ => ?_, fun h => absurd h (nI_nlt (by omega) (by omega))⟩) | (refine ⟨fun h => absurd (nI_lt (by omega) (by omega)) h, fun _ => ?_⟩) | (refine ⟨fun _ => ?_, fun h => absurd (nI_lt (by omega) (by omega)) h⟩) | (refine ⟨fun h => absurd ((nI_eq (by omega) (by omega)).mp h) (by omega), fun _ => ?_⟩) | (refine ⟨fun _ => ?_, fun h => absurd ((nI_eq (by omega) (by omega)).mp h) (by omega)⟩) | (refine ⟨fun h => absurd h (by decide), fun _ => ?_⟩) | (refine ⟨fun _ => ?_, fun h => absurd h (by decide)⟩) | (refine ⟨fun h => absurd rfl h, fun _ => ?_⟩) | (refine ⟨fun _ => ?_, fun h => absurd rfl h⟩)))
set_option maxRecDepth 100000 in
set_option maxHeartbeats 4000000 in
theorem c_N_putInBag {s : DS} {o : Option Nat} (hn : n < 200) (hw : wD sn n s) (ho : ∀ j, o = some j → j < s.2.1.1) (h : mD m0 s ph) (hQ : ∀ ph', fr FN ph ph' → mD m0 (puS s o) ph' → Q none ph') : px_Met G mX12_putInBag d 0 0 [.ref 100, .int (mnum o)] ph Q := by
  obtain ⟨x, ⟨ob, kd, ow, la, st, br⟩, ⟨va, bn, bg⟩, ⟨t0, t1, t2, t3⟩⟩ := s
  have h0 := h
  obtain ⟨m, kd', ow', st', la', br', va', bg', g0, g1, g2, g3, ⟨h100, e1, e2, e3, e4⟩, ⟨h142, h143, h144, h145, h146, h147, h148⟩, ⟨h149, h150, h151, h152⟩, v1, v2, v3, v4⟩ := h
  obtain ⟨w1, w2, w3, w4, w5⟩ := hw
  refine px_start kX12_putInBag (Nat.le_of_ble_eq_true rfl) ?_
  show px_W G _ _ _ _ _ 0 0 0 [some (.ref 100), some (.int (mnum o)), none, none] [] ph
  -- nothing to put
  have no : ∀ (r i : Nat), i + r = bn → puS (x, (ob, kd, ow, la, st, br), (va, bn, bg), (t0, t1, t2, t3)) o = (x, (ob, kd, ow, la, st, br), (va, bn, bg), (t0, t1, t2, t3)) → px_W G mX12_putInBag d 0 0 Q 0 0 12 [some (.ref 100), some (.int (mnum o)), some (.int (nI 1)), some (.int (nI i))] [] ph := by
    intro r
    induction r with
    | zero =>
      intro i hi hp
      have hib : i = bn := by omega
      subst hib
      have hq := hQ ph fr_id (by rw [hp]; exact h0)
      (repeat (first | (refine px_st rfl rfl ?_; simp only [px_wp, px_at, px_set, px_set2, px_clr, px_ldi, px_ldl, px_lda, px_i1, px_i2, px_l1, px_l2, px_il, px_a1, px_r1, px_r2, px_ir, px_vir, px_g, px_v1, px_v2, px_gf, px_pf, px_ps, px_ar, px_nth, px_upd, px_zero, px_dfl, px_put_self, px_put_ne, px_sw, nI_add, pk_mul, true_and, and_true, Nat.reduceAdd, Nat.reduceLT, Nat.reduceEqDiff, List.length_cons, List.length_nil, true_or, or_true, List.set_set, ne_eq, not_false_eq_true, Fin.isValue, Fin.val_zero, Fin.val_one, Fin.val_two, reduceCtorEq, Option.map_some, List.length_set, Nat.zero_lt_succ, Option.toList_some, Option.toList_none, List.cons_append, List.nil_append, px_b_2, IA, LA, BA, ZA, QA, PT, DR, TL, MC, CD, CC, false_and, or_false, false_or, nar_b, nar_0, nar_1, nar_y, h100, g_bagged, e2]) | (refine ⟨_, rfl, by omega, ?_⟩) | (refine ⟨fun h => absurd h (nI_nlt (by omega) (by omega)), fun _ => ?_⟩) | (refine ⟨fun _ => ?_, fun h => absurd h (nI_nlt (by omega) (by omega))⟩) | (refine ⟨fun h => absurd (nI_lt (by omega) (by omega)) h, fun _ => ?_⟩) | (refine ⟨fun _ => ?_, fun h => absurd (nI_lt (by omega) (by omega)) h⟩) | (refine ⟨fun h => absurd ((nI_eq (by omega) (by omega)).mp h) (by omega), fun _ => ?_⟩) | (refine ⟨fun _ => ?_, fun h => absurd ((nI_eq (by omega) (by omega)).mp h) (by omega)⟩) | (refine ⟨fun h => absurd h (by decide), fun _ => ?_⟩) | (refine ⟨fun _ => ?_, fun h => absurd h (by decide)⟩) | (refine ⟨fun h => absurd rfl h, fun _ => ?_⟩) | (refine ⟨fun _ => ?_, fun h => absurd rfl h⟩)))
      exact px_return rfl rfl (Nat.le_refl _) (Nat.le_refl _) hq
    | succ r ih =>
      intro i hi hp
      have hih := ih (i + 1) (by omega) hp
      (repeat (first | (exact hih) | (refine px_st rfl rfl ?_; simp only [px_wp, px_at, px_set, px_set2, px_clr, px_ldi, px_ldl, px_lda, px_i1, px_i2, px_l1, px_l2, px_il, px_a1, px_r1, px_r2, px_ir, px_vir, px_g, px_v1, px_v2, px_gf, px_pf, px_ps, px_ar, px_nth, px_upd, px_zero, px_dfl, px_put_self, px_put_ne, px_sw, nI_add, pk_mul, true_and, and_true, Nat.reduceAdd, Nat.reduceLT, Nat.reduceEqDiff, List.length_cons, List.length_nil, true_or, or_true, List.set_set, ne_eq, not_false_eq_true, Fin.isValue, Fin.val_zero, Fin.val_one, Fin.val_two, reduceCtorEq, Option.map_some, List.length_set, Nat.zero_lt_succ, Option.toList_some, Option.toList_none, List.cons_append, List.nil_append, px_b_2, IA, LA, BA, ZA, QA, PT, DR, TL, MC, CD, CC, false_and, or_false, false_or, nar_b, nar_0, nar_1, nar_y, h100, g_bagged, e2]) | (refine ⟨_, rfl, by omega, ?_⟩) | (refine ⟨fun h => absurd h (nI_nlt (by omega) (by omega)), fun _ => ?_⟩) | (refine ⟨fun _ => ?_, fun h => absurd h (nI_nlt (by omega) (by omega))⟩) | (refine ⟨fun h => absurd (nI_lt (by omega) (by omega)) h, fun _ => ?_⟩) | (refine ⟨fun _ => ?_, fun h => absurd (nI_lt (by omega) (by omega)) h⟩) | (refine ⟨fun h => absurd ((nI_eq (by omega) (by omega)).mp h) (by omega), fun _ => ?_⟩) | (refine ⟨fun _ => ?_, fun h => absurd ((nI_eq (by omega) (by omega)).mp h) (by omega)⟩) | (refine ⟨fun h => absurd h (by decide), fun _ => ?_⟩) | (refine ⟨fun _ => ?_, fun h => absurd h (by decide)⟩) | (refine ⟨fun h => absurd rfl h, fun _ => ?_⟩) | (refine ⟨fun _ => ?_, fun h => absurd rfl h⟩)))
  cases o with
  | none =>
    have o1 : mnum none = -1 := rfl
    have hn0 := no bn 0 (by omega) rfl
    rw [o1] at hn0 ⊢
    (repeat (first | (exact hn0) | (refine px_st rfl rfl ?_; simp only [px_wp, px_at, px_set, px_set2, px_clr, px_ldi, px_ldl, px_lda, px_i1, px_i2, px_l1, px_l2, px_il, px_a1, px_r1, px_r2, px_ir, px_vir, px_g, px_v1, px_v2, px_gf, px_pf, px_ps, px_ar, px_nth, px_upd, px_zero, px_dfl, px_put_self, px_put_ne, px_sw, nI_add, pk_mul, true_and, and_true, Nat.reduceAdd, Nat.reduceLT, Nat.reduceEqDiff, List.length_cons, List.length_nil, true_or, or_true, List.set_set, ne_eq, not_false_eq_true, Fin.isValue, Fin.val_zero, Fin.val_one, Fin.val_two, reduceCtorEq, Option.map_some, List.length_set, Nat.zero_lt_succ, Option.toList_some, Option.toList_none, List.cons_append, List.nil_append, px_b_2, IA, LA, BA, ZA, QA, PT, DR, TL, MC, CD, CC, false_and, or_false, false_or, nar_b, nar_0, nar_1, nar_y]) | (refine ⟨_, rfl, by omega, ?_⟩) | (refine ⟨fun h => absurd h (nI_nlt (by omega) (by omega)), fun _ => ?_⟩) | (refine ⟨fun _ => ?_, fun h => absurd h (nI_nlt (by omega) (by omega))⟩) | (refine ⟨fun h => absurd (nI_lt (by omega) (by omega)) h, fun _ => ?_⟩) | (refine ⟨fun _ => ?_, fun h => absurd (nI_lt (by omega) (by omega)) h⟩) | (refine ⟨fun h => absurd ((nI_eq (by omega) (by omega)).mp h) (by omega), fun _ => ?_⟩) | (refine ⟨fun _ => ?_, fun h => absurd ((nI_eq (by omega) (by omega)).mp h) (by omega)⟩) | (refine ⟨fun h => absurd h (by decide), fun _ => ?_⟩) | (refine ⟨fun _ => ?_, fun h => absurd h (by decide)⟩) | (refine ⟨fun h => absurd rfl h, fun _ => ?_⟩) | (refine ⟨fun _ => ?_, fun h => absurd rfl h⟩)))
  | some y =>
    have o1 : mnum (some y) = nI y := rfl
    have hy : y < ob := ho y rfl
    rw [o1] at no ⊢
    have loop : ∀ (r i : Nat), i + r = bn → mtB bg i y = false → px_W G mX12_putInBag d 0 0 Q 0 0 12 [some (.ref 100), some (.int (nI y)), some (.int (nI 0)), some (.int (nI i))] [] ph := by
      intro r
      induction r with
      | zero =>
        intro i hi hno
        have hib : i = bn := by omega
        subst hib
        (repeat (first | (refine px_st rfl rfl ?_; simp only [px_wp, px_at, px_set, px_set2, px_clr, px_ldi, px_ldl, px_lda, px_i1, px_i2, px_l1, px_l2, px_il, px_a1, px_r1, px_r2, px_ir, px_vir, px_g, px_v1, px_v2, px_gf, px_pf, px_ps, px_ar, px_nth, px_upd, px_zero, px_dfl, px_put_self, px_put_ne, px_sw, nI_add, pk_mul, true_and, and_true, Nat.reduceAdd, Nat.reduceLT, Nat.reduceEqDiff, List.length_cons, List.length_nil, true_or, or_true, List.set_set, ne_eq, not_false_eq_true, Fin.isValue, Fin.val_zero, Fin.val_one, Fin.val_two, reduceCtorEq, Option.map_some, List.length_set, Nat.zero_lt_succ, Option.toList_some, Option.toList_none, List.cons_append, List.nil_append, px_b_2, IA, LA, BA, ZA, QA, PT, DR, TL, MC, CD, CC, false_and, or_false, false_or, nar_b, nar_0, nar_1, nar_y, h100, g_bagged, p_bagged, md_len, g_bag, e2, h148]) | (refine ⟨_, rfl, by omega, ?_⟩) | (refine ⟨fun h => absurd h (nI_nlt (by omega) (by omega)), fun _ => ?_⟩) | (refine ⟨fun _ => ?_, fun h => absurd h (nI_nlt (by omega) (by omega))⟩) | (refine ⟨fun h => absurd (nI_lt (by omega) (by omega)) h, fun _ => ?_⟩) | (refine ⟨fun _ => ?_, fun h => absurd (nI_lt (by omega) (by omega)) h⟩) | (refine ⟨fun h => absurd ((nI_eq (by omega) (by omega)).mp h) (by omega), fun _ => ?_⟩) | (refine ⟨fun _ => ?_, fun h => absurd ((nI_eq (by omega) (by omega)).mp h) (by omega)⟩) | (refine ⟨fun h => absurd h (by decide), fun _ => ?_⟩) | (refine ⟨fun _ => ?_, fun h => absurd h (by decide)⟩) | (refine ⟨fun h => absurd rfl h, fun _ => ?_⟩) | (refine ⟨fun _ => ?_, fun h => absurd rfl h⟩)))
        refine px_return rfl rfl (Nat.le_refl _) (Nat.le_refl _) (hQ _ (fn_set (fn_set fr_id rfl) rfl) ?_)
        unfold puS
        simp only [hno]
        refine ⟨upd m 22 (nI (i + 1)), kd', ow', st', la', br', va', upd bg' i (nI y), g0, g1, g2, g3, ⟨?_, (up_ne (by decide)).trans e1, pk_us, (up_ne (by decide)).trans e3, fun j hj => (up_ne (by omega)).trans (e4 j hj)⟩, ⟨?_, ?_, ?_, ?_, ?_, ?_, ?_⟩, ⟨?_, ?_, ?_, ?_⟩, v1, v2, fun j hj => ?_, v4⟩
        rotate_right 1
        · by_cases hji : j = i
          · subst hji; rw [pk_us, va_up_s]
          · rw [va_up_n hji]; unfold upd; rw [if_neg hji]; exact v3 j (by omega)
        all_goals simp only [px_put_self, px_put_ne, h100, h142, h143, h144, h145, h146, h147, h148, h149, h150, h151, h152, Nat.reduceEqDiff, not_false_eq_true, Option.map_some]
      | succ r ih =>
        intro i hi hno
        have hbi := v3 i (by omega)
        have hb5 := w5 i (by omega)
        by_cases hoi : bg i = y
        · have hin : mtB bg bn y = true := (mtB_iff bn).mpr ⟨i, by omega, hoi⟩
          have hn1 := no r (i + 1) (by omega) (by unfold puS; simp only [hin, if_true])
          rw [hoi] at hbi
          (repeat (first | (exact hn1) | (refine px_st rfl rfl ?_; simp only [px_wp, px_at, px_set, px_set2, px_clr, px_ldi, px_ldl, px_lda, px_i1, px_i2, px_l1, px_l2, px_il, px_a1, px_r1, px_r2, px_ir, px_vir, px_g, px_v1, px_v2, px_gf, px_pf, px_ps, px_ar, px_nth, px_upd, px_zero, px_dfl, px_put_self, px_put_ne, px_sw, nI_add, pk_mul, true_and, and_true, Nat.reduceAdd, Nat.reduceLT, Nat.reduceEqDiff, List.length_cons, List.length_nil, true_or, or_true, List.set_set, ne_eq, not_false_eq_true, Fin.isValue, Fin.val_zero, Fin.val_one, Fin.val_two, reduceCtorEq, Option.map_some, List.length_set, Nat.zero_lt_succ, Option.toList_some, Option.toList_none, List.cons_append, List.nil_append, px_b_2, IA, LA, BA, ZA, QA, PT, DR, TL, MC, CD, CC, false_and, or_false, false_or, nar_b, nar_0, nar_1, nar_y, h100, g_bagged, g_bag, e2, h148, hbi]) | (refine ⟨_, rfl, by omega, ?_⟩) | (refine ⟨fun h => absurd h (nI_nlt (by omega) (by omega)), fun _ => ?_⟩) | (refine ⟨fun _ => ?_, fun h => absurd h (nI_nlt (by omega) (by omega))⟩) | (refine ⟨fun h => absurd (nI_lt (by omega) (by omega)) h, fun _ => ?_⟩) | (refine ⟨fun _ => ?_, fun h => absurd (nI_lt (by omega) (by omega)) h⟩) | (refine ⟨fun h => absurd ((nI_eq (by omega) (by omega)).mp h) (by omega), fun _ => ?_⟩) | (refine ⟨fun _ => ?_, fun h => absurd ((nI_eq (by omega) (by omega)).mp h) (by omega)⟩) | (refine ⟨fun h => absurd h (by decide), fun _ => ?_⟩) | (refine ⟨fun _ => ?_, fun h => absurd h (by decide)⟩) | (refine ⟨fun h => absurd rfl h, fun _ => ?_⟩) | (refine ⟨fun _ => ?_, fun h => absurd rfl h⟩)))
        · have hih := ih (i + 1) (by omega) (by
            unfold mtB
            rw [hno, Bool.false_or]
            exact decide_eq_false hoi)
          (repeat (first | (exact hih) | (refine px_st rfl rfl ?_; simp only [px_wp, px_at, px_set, px_set2, px_clr, px_ldi, px_ldl, px_lda, px_i1, px_i2, px_l1, px_l2, px_il, px_a1, px_r1, px_r2, px_ir, px_vir, px_g, px_v1, px_v2, px_gf, px_pf, px_ps, px_ar, px_nth, px_upd, px_zero, px_dfl, px_put_self, px_put_ne, px_sw, nI_add, pk_mul, true_and, and_true, Nat.reduceAdd, Nat.reduceLT, Nat.reduceEqDiff, List.length_cons, List.length_nil, true_or, or_true, List.set_set, ne_eq, not_false_eq_true, Fin.isValue, Fin.val_zero, Fin.val_one, Fin.val_two, reduceCtorEq, Option.map_some, List.length_set, Nat.zero_lt_succ, Option.toList_some, Option.toList_none, List.cons_append, List.nil_append, px_b_2, IA, LA, BA, ZA, QA, PT, DR, TL, MC, CD, CC, false_and, or_false, false_or, nar_b, nar_0, nar_1, nar_y, h100, g_bagged, g_bag, e2, h148, hbi]) | (refine ⟨_, rfl, by omega, ?_⟩) | (refine ⟨fun h => absurd h (nI_nlt (by omega) (by omega)), fun _ => ?_⟩) | (refine ⟨fun _ => ?_, fun h => absurd h (nI_nlt (by omega) (by omega))⟩) | (refine ⟨fun h => absurd (nI_lt (by omega) (by omega)) h, fun _ => ?_⟩) | (refine ⟨fun _ => ?_, fun h => absurd (nI_lt (by omega) (by omega)) h⟩) | (refine ⟨fun h => absurd ((nI_eq (by omega) (by omega)).mp h) (by omega), fun _ => ?_⟩) | (refine ⟨fun _ => ?_, fun h => absurd ((nI_eq (by omega) (by omega)).mp h) (by omega)⟩) | (refine ⟨fun h => absurd h (by decide), fun _ => ?_⟩) | (refine ⟨fun _ => ?_, fun h => absurd h (by decide)⟩) | (refine ⟨fun h => absurd rfl h, fun _ => ?_⟩) | (refine ⟨fun _ => ?_, fun h => absurd rfl h⟩)))
    have hl := loop bn 0 (by omega) rfl
    (repeat (first | (exact hl) | (refine px_st rfl rfl ?_; simp only [px_wp, px_at, px_set, px_set2, px_clr, px_ldi, px_ldl, px_lda, px_i1, px_i2, px_l1, px_l2, px_il, px_a1, px_r1, px_r2, px_ir, px_vir, px_g, px_v1, px_v2, px_gf, px_pf, px_ps, px_ar, px_nth, px_upd, px_zero, px_dfl, px_put_self, px_put_ne, px_sw, nI_add, pk_mul, true_and, and_true, Nat.reduceAdd, Nat.reduceLT, Nat.reduceEqDiff, List.length_cons, List.length_nil, true_or, or_true, List.set_set, ne_eq, not_false_eq_true, Fin.isValue, Fin.val_zero, Fin.val_one, Fin.val_two, reduceCtorEq, Option.map_some, List.length_set, Nat.zero_lt_succ, Option.toList_some, Option.toList_none, List.cons_append, List.nil_append, px_b_2, IA, LA, BA, ZA, QA, PT, DR, TL, MC, CD, CC, false_and, or_false, false_or, nar_b, nar_0, nar_1, nar_y]) | (refine ⟨_, rfl, by omega, ?_⟩) | (refine ⟨fun h => absurd h (nI_nlt (by omega) (by omega)), fun _ => ?_⟩) | (refine ⟨fun _ => ?_, fun h => absurd h (nI_nlt (by omega) (by omega))⟩) | (refine ⟨fun h => absurd (nI_lt (by omega) (by omega)) h, fun _ => ?_⟩) | (refine ⟨fun _ => ?_, fun h => absurd (nI_lt (by omega) (by omega)) h⟩) | (refine ⟨fun h => absurd ((nI_eq (by omega) (by omega)).mp h) (by omega), fun _ => ?_⟩) | (refine ⟨fun _ => ?_, fun h => absurd ((nI_eq (by omega) (by omega)).mp h) (by omega)⟩) | (refine ⟨fun h => absurd h (by decide), fun _ => ?_⟩) | (refine ⟨fun _ => ?_, fun h => absurd h (by decide)⟩) | (refine ⟨fun h => absurd rfl h, fun _ => ?_⟩) | (refine ⟨fun _ => ?_, fun h => absurd rfl h⟩)))
end MDR
