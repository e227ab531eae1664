/-! reading a rule, over parts: what it begins with, what it ends with, whether it may be empty -/
abbrev PTt := Int64 × Int64 × Int64 × Int64 × Bool
abbrev ptE (x : PTt) : px_E := PT x.1 x.2.1 x.2.2.1 x.2.2.2.1 x.2.2.2.2
def pNo : PTt := (lN 0, lN 0, lN 0, lN 0, false)
def pEm : PTt := (lN 0, lN 0, lN 0, lN 0, true)
def pPl (p : Nat) : PTt := (pl_lo p, pl_hi p, pl_lo p, pl_hi p, false)
def pJn (x y : PTt) : PTt := (x.1 ||| y.1, x.2.1 ||| y.2.1, x.2.2.1 ||| y.2.2.1, x.2.2.2.1 ||| y.2.2.2.1, x.2.2.2.2 || y.2.2.2.2)
def pAp (x y : PTt) : PTt := (if x.2.2.2.2 then x.1 ||| y.1 else x.1, if x.2.2.2.2 then x.2.1 ||| y.2.1 else x.2.1, (if y.2.2.2.2 then x.2.2.1 else lN 0) ||| y.2.2.1, (if y.2.2.2.2 then x.2.2.2.1 else lN 0) ||| y.2.2.2.1, x.2.2.2.2 && y.2.2.2.2)
/-- whether a part ends at a place -/
def eA (x : PTt) (i : Nat) : Bool := bitL (if i < 64 then x.2.2.1 else x.2.2.2.1) (i % 64)
def pLk (pl : Nat) (x : PTt) (y : Int64) (f : Nat → Int64) : Nat → Int64 := fun i => if i < pl ∧ eA x i = true then f i ||| y else f i
/-- the class's cells of the reader -/
def pC (dp pl : Nat) (al rw : Nat → PTt) (pc : PTt) (tk : Nat → Nat) (fl fh : Nat → Int64) (ph : List px_E) : Prop := (∃ rl rh, ph[2]? = some (RR (nI dp) (nI pl) rl rh)) ∧ (∃ fa, ph[3]? = some (QA 4 11 fa) ∧ ∀ i, i < 11 → fa i = some (13 + 2 * i)) ∧ (∃ fa, ph[4]? = some (QA 4 11 fa) ∧ ∀ i, i < 11 → fa i = some (14 + 2 * i)) ∧ (∀ i, i < 11 → ph[13 + 2 * i]? = some (ptE (al i))) ∧ (∀ i, i < 11 → ph[14 + 2 * i]? = some (ptE (rw i))) ∧ ph[5]? = some (ptE pc) ∧ (∃ tk', ph[6]? = some (IA 128 tk') ∧ ∀ i, i < pl → tk' i = nI (tk i)) ∧ ph[7]? = some (LA 128 fl) ∧ ph[8]? = some (LA 128 fh) ∧ isLA ph 9 24 ∧ isLA ph 10 24 ∧ isLA ph 11 100 ∧ isLA ph 12 100
theorem pC_read {dp pl : Nat} {al rw : Nat → PTt} {pc : PTt} {tk : Nat → Nat} {fl fh : Nat → Int64} {ph : List px_E} (h : pC dp pl al rw pc tk fl fh ph) : iRead ph := by
  obtain ⟨⟨rl, rh, h2⟩, h3, h4, h13, h14, h5, ⟨tk', h6, -⟩, h7, h8, h9, h10, h11, h12⟩ := h
  refine ⟨⟨_, _, _, _, h2⟩, h3, h4, fun i hi => ?_, ⟨_, _, _, _, _, h5⟩, ⟨_, h6⟩, ⟨_, h7⟩, ⟨_, h8⟩, h9, h10, h11, h12⟩
  rcases Nat.mod_two_eq_zero_or_one i with hm | hm
  · have := h13 (i / 2) (by omega)
    rw [show 13 + 2 * (i / 2) = 13 + i by omega] at this
    exact ⟨_, _, _, _, _, this⟩
  · have := h14 (i / 2) (by omega)
    rw [show 14 + 2 * (i / 2) = 13 + i by omega] at this
    exact ⟨_, _, _, _, _, this⟩
section PCU
variable {dp pl : Nat} {al rw : Nat → PTt} {pc : PTt} {tk : Nat → Nat} {fl fh : Nat → Int64} {ph : List px_E}
theorem pC_set (h : pC dp pl al rw pc tk fl fh ph) {k : Nat} {x : px_E} (hk : ∀ q, q < 35 → q ≠ k → (ph.set k x)[q]? = ph[q]?) : ∀ q, q < 35 → q ≠ k → (ph.set k x)[q]? = ph[q]? := hk
theorem pC_row (h : pC dp pl al rw pc tk fl fh ph) {d : Nat} (hd : d < 11) (x : PTt) : pC dp pl al (va_up rw d x) pc tk fl fh (ph.set (14 + 2 * d) (ptE x)) := by
  obtain ⟨⟨rl, rh, h2⟩, ⟨fa, h3, h3'⟩, ⟨fb, h4, h4'⟩, h13, h14, h5, ⟨tk', h6, h6'⟩, h7, h8, ⟨f9, h9⟩, ⟨f10, h10⟩, ⟨f11, h11⟩, ⟨f12, h12⟩⟩ := h
  refine ⟨⟨rl, rh, (px_put_ne (by omega)).trans h2⟩, ⟨fa, (px_put_ne (by omega)).trans h3, h3'⟩, ⟨fb, (px_put_ne (by omega)).trans h4, h4'⟩, fun i hi => (px_put_ne (by omega)).trans (h13 i hi), fun i hi => ?_, (px_put_ne (by omega)).trans h5, ⟨tk', (px_put_ne (by omega)).trans h6, h6'⟩, (px_put_ne (by omega)).trans h7, (px_put_ne (by omega)).trans h8, ⟨f9, (px_put_ne (by omega)).trans h9⟩, ⟨f10, (px_put_ne (by omega)).trans h10⟩, ⟨f11, (px_put_ne (by omega)).trans h11⟩, ⟨f12, (px_put_ne (by omega)).trans h12⟩⟩
  by_cases hid : i = d
  · subst hid; rw [px_put_self, h14 i hi, va_up_s]; rfl
  · rw [va_up_n hid]; exact (px_put_ne (by omega)).trans (h14 i hi)
theorem pC_alt (h : pC dp pl al rw pc tk fl fh ph) {d : Nat} (hd : d < 11) (x : PTt) : pC dp pl (va_up al d x) rw pc tk fl fh (ph.set (13 + 2 * d) (ptE x)) := by
  obtain ⟨⟨rl, rh, h2⟩, ⟨fa, h3, h3'⟩, ⟨fb, h4, h4'⟩, h13, h14, h5, ⟨tk', h6, h6'⟩, h7, h8, ⟨f9, h9⟩, ⟨f10, h10⟩, ⟨f11, h11⟩, ⟨f12, h12⟩⟩ := h
  refine ⟨⟨rl, rh, (px_put_ne (by omega)).trans h2⟩, ⟨fa, (px_put_ne (by omega)).trans h3, h3'⟩, ⟨fb, (px_put_ne (by omega)).trans h4, h4'⟩, fun i hi => ?_, fun i hi => (px_put_ne (by omega)).trans (h14 i hi), (px_put_ne (by omega)).trans h5, ⟨tk', (px_put_ne (by omega)).trans h6, h6'⟩, (px_put_ne (by omega)).trans h7, (px_put_ne (by omega)).trans h8, ⟨f9, (px_put_ne (by omega)).trans h9⟩, ⟨f10, (px_put_ne (by omega)).trans h10⟩, ⟨f11, (px_put_ne (by omega)).trans h11⟩, ⟨f12, (px_put_ne (by omega)).trans h12⟩⟩
  by_cases hid : i = d
  · subst hid; rw [px_put_self, h13 i hi, va_up_s]; rfl
  · rw [va_up_n hid]; exact (px_put_ne (by omega)).trans (h13 i hi)
theorem pC_pc (h : pC dp pl al rw pc tk fl fh ph) (x : PTt) : pC dp pl al rw x tk fl fh (ph.set 5 (ptE x)) := by
  obtain ⟨⟨rl, rh, h2⟩, ⟨fa, h3, h3'⟩, ⟨fb, h4, h4'⟩, h13, h14, h5, ⟨tk', h6, h6'⟩, h7, h8, ⟨f9, h9⟩, ⟨f10, h10⟩, ⟨f11, h11⟩, ⟨f12, h12⟩⟩ := h
  exact ⟨⟨rl, rh, (px_put_ne (by omega)).trans h2⟩, ⟨fa, (px_put_ne (by omega)).trans h3, h3'⟩, ⟨fb, (px_put_ne (by omega)).trans h4, h4'⟩, fun i hi => (px_put_ne (by omega)).trans (h13 i hi), fun i hi => (px_put_ne (by omega)).trans (h14 i hi), px_put_self.trans (by rw [h5]; rfl), ⟨tk', (px_put_ne (by omega)).trans h6, h6'⟩, (px_put_ne (by omega)).trans h7, (px_put_ne (by omega)).trans h8, ⟨f9, (px_put_ne (by omega)).trans h9⟩, ⟨f10, (px_put_ne (by omega)).trans h10⟩, ⟨f11, (px_put_ne (by omega)).trans h11⟩, ⟨f12, (px_put_ne (by omega)).trans h12⟩⟩
theorem pC_dp (h : pC dp pl al rw pc tk fl fh ph) (dp' : Nat) {rl rh : Int64} : pC dp' pl al rw pc tk fl fh (ph.set 2 (RR (nI dp') (nI pl) rl rh)) := by
  obtain ⟨⟨rl', rh', h2⟩, ⟨fa, h3, h3'⟩, ⟨fb, h4, h4'⟩, h13, h14, h5, ⟨tk', h6, h6'⟩, h7, h8, ⟨f9, h9⟩, ⟨f10, h10⟩, ⟨f11, h11⟩, ⟨f12, h12⟩⟩ := h
  exact ⟨⟨rl, rh, px_put_self.trans (by rw [h2]; rfl)⟩, ⟨fa, (px_put_ne (by omega)).trans h3, h3'⟩, ⟨fb, (px_put_ne (by omega)).trans h4, h4'⟩, fun i hi => (px_put_ne (by omega)).trans (h13 i hi), fun i hi => (px_put_ne (by omega)).trans (h14 i hi), (px_put_ne (by omega)).trans h5, ⟨tk', (px_put_ne (by omega)).trans h6, h6'⟩, (px_put_ne (by omega)).trans h7, (px_put_ne (by omega)).trans h8, ⟨f9, (px_put_ne (by omega)).trans h9⟩, ⟨f10, (px_put_ne (by omega)).trans h10⟩, ⟨f11, (px_put_ne (by omega)).trans h11⟩, ⟨f12, (px_put_ne (by omega)).trans h12⟩⟩
theorem pC_f (h : pC dp pl al rw pc tk fl fh ph) (fl' fh' : Nat → Int64) : pC dp pl al rw pc tk fl' fh' ((ph.set 7 (LA 128 fl')).set 8 (LA 128 fh')) := by
  obtain ⟨⟨rl, rh, h2⟩, ⟨fa, h3, h3'⟩, ⟨fb, h4, h4'⟩, h13, h14, h5, ⟨tk', h6, h6'⟩, h7, h8, ⟨f9, h9⟩, ⟨f10, h10⟩, ⟨f11, h11⟩, ⟨f12, h12⟩⟩ := h
  have e : ∀ q v, ¬ q = 7 → ¬ q = 8 → ph[q]? = some v → ((ph.set 7 (LA 128 fl')).set 8 (LA 128 fh'))[q]? = some v := fun q v a b c => (px_put_ne (Ne.symm b)).trans ((px_put_ne (Ne.symm a)).trans c)
  exact ⟨⟨rl, rh, e _ _ (by omega) (by omega) h2⟩, ⟨fa, e _ _ (by omega) (by omega) h3, h3'⟩, ⟨fb, e _ _ (by omega) (by omega) h4, h4'⟩, fun i hi => e _ _ (by omega) (by omega) (h13 i hi), fun i hi => e _ _ (by omega) (by omega) (h14 i hi), e _ _ (by omega) (by omega) h5, ⟨tk', e _ _ (by omega) (by omega) h6, h6'⟩, (px_put_ne (by omega)).trans (px_put_self.trans (by rw [h7]; rfl)), px_put_self.trans (by rw [px_put_ne (by omega), h8]; rfl), ⟨f9, e _ _ (by omega) (by omega) h9⟩, ⟨f10, e _ _ (by omega) (by omega) h10⟩, ⟨f11, e _ _ (by omega) (by omega) h11⟩, ⟨f12, e _ _ (by omega) (by omega) h12⟩⟩
end PCU
theorem grp_rd {k : Nat} (h : 2 ≤ k) (h2 : k < 35) : grp k = 2 := by
  unfold grp
  rw [if_neg (by omega), if_neg (by omega), if_pos h2]
theorem fr_rd {ph ph' : List px_E} {k : Nat} {x : px_E} (h : fr (FR [2]) ph ph') (h1 : 2 ≤ k) (h2 : k < 35) : fr (FR [2]) ph (ph'.set k x) := fr_set h (by rw [grp_rd h1 h2]; rfl)
section RDR
variable {G : px_G} {ph : List px_E} {d : Nat} {Q : Option Value → List px_E → Prop} {dp pl : Nat} {al rw : Nat → PTt} {pc : PTt} {tk : Nat → Nat} {fl fh : Nat → Int64}
set_option maxRecDepth 100000 in
set_option maxHeartbeats 4000000 in
theorem c_R_beginAlt (hd : dp < 11) (h : pC dp pl al rw pc tk fl fh ph) (hQ : ∀ ph', fr (FR [2]) ph ph' → pC dp pl (va_up al dp pNo) (va_up rw dp pEm) pc tk fl fh ph' → Q none ph') : px_Met G mX8_beginAlt (d + 2) 0 0 [.ref 2] ph Q := by
  have h1 := pC_alt h hd pNo
  have h0 := h
  obtain ⟨⟨rl, rh, h2⟩, ⟨fa, h3, h3'⟩, ⟨fb, h4, h4'⟩, h13, h14, -⟩ := h
  refine px_start kX8_beginAlt (Nat.le_of_ble_eq_true rfl) ?_
  show px_W G _ _ _ _ _ 0 0 0 [some (.ref 2)] [] ph
  (repeat (first | (refine px_st rfl rfl ?_; simp only [px_wp, px_at, px_set, px_set2, px_clr, px_ldi, px_ldl, px_lda, px_i1, px_i2, px_l1, px_l2, px_il, px_a1, px_r1, px_r2, px_ir, px_vir, px_g, px_v1, px_v2, px_gf, px_pf, px_ps, px_ar, px_nth, px_upd, px_zero, px_dfl, px_put_self, px_put_ne, px_sw, nI_add, pk_mul, true_and, and_true, Nat.reduceAdd, Nat.reduceLT, Nat.reduceEqDiff, List.length_cons, List.length_nil, true_or, or_true, List.set_set, ne_eq, not_false_eq_true, Fin.isValue, Fin.val_zero, Fin.val_one, Fin.val_two, reduceCtorEq, Option.map_some, List.length_set, Nat.zero_lt_succ, Option.toList_some, Option.toList_none, List.cons_append, List.nil_append, px_b_2, IA, LA, BA, ZA, QA, PT, DR, TL, MC, CD, CC, false_and, or_false, false_or, nar_b, nar_0, nar_1, nar_y, h2, h3]) | (refine ⟨_, rfl, by omega, ?_⟩) | (refine ⟨fun h => absurd h (nI_nlt (by omega) (by omega)), fun _ => ?_⟩) | (refine ⟨fun _ => ?_, fun h => absurd h (nI_nlt (by omega) (by omega))⟩) | (refine ⟨fun h => absurd (nI_lt (by omega) (by omega)) h, fun _ => ?_⟩) | (refine ⟨fun _ => ?_, fun h => absurd (nI_lt (by omega) (by omega)) h⟩) | (refine ⟨fun h => absurd ((nI_eq (by omega) (by omega)).mp h) (by omega), fun _ => ?_⟩) | (refine ⟨fun _ => ?_, fun h => absurd ((nI_eq (by omega) (by omega)).mp h) (by omega)⟩) | (refine ⟨fun h => absurd h (by decide), fun _ => ?_⟩) | (refine ⟨fun _ => ?_, fun h => absurd h (by decide)⟩) | (refine ⟨fun h => absurd rfl h, fun _ => ?_⟩) | (refine ⟨fun _ => ?_, fun h => absurd rfl h⟩)))
  refine ⟨by decide, ?_⟩
  rw [h3' dp hd, va_rf_s]
  have ha := h13 dp hd
  refine px_cV rfl rfl kX7_becomeNothing rfl (c_P_becomeNothing ha ?_) (Nat.le_refl _) ha rfl rfl rfl (Nat.le_of_ble_eq_true rfl) (Nat.zero_le _) (Nat.zero_le _)
  have k0 := h1
  obtain ⟨⟨rl', rh', k2⟩, -, ⟨fb', k4, k4'⟩, -, k14, -⟩ := h1
  show px_W G _ _ _ _ _ _ _ _ _ _ (ph.set (13 + 2 * dp) (ptE pNo))
  generalize hph1 : ph.set (13 + 2 * dp) (ptE pNo) = ph1 at k0 k2 k4 k14 ⊢
  (repeat (first | (refine px_st rfl rfl ?_; simp only [px_wp, px_at, px_set, px_set2, px_clr, px_ldi, px_ldl, px_lda, px_i1, px_i2, px_l1, px_l2, px_il, px_a1, px_r1, px_r2, px_ir, px_vir, px_g, px_v1, px_v2, px_gf, px_pf, px_ps, px_ar, px_nth, px_upd, px_zero, px_dfl, px_put_self, px_put_ne, px_sw, nI_add, pk_mul, true_and, and_true, Nat.reduceAdd, Nat.reduceLT, Nat.reduceEqDiff, List.length_cons, List.length_nil, true_or, or_true, List.set_set, ne_eq, not_false_eq_true, Fin.isValue, Fin.val_zero, Fin.val_one, Fin.val_two, reduceCtorEq, Option.map_some, List.length_set, Nat.zero_lt_succ, Option.toList_some, Option.toList_none, List.cons_append, List.nil_append, px_b_2, IA, LA, BA, ZA, QA, PT, DR, TL, MC, CD, CC, false_and, or_false, false_or, nar_b, nar_0, nar_1, nar_y, k2, k4]) | (refine ⟨_, rfl, by omega, ?_⟩) | (refine ⟨fun h => absurd h (nI_nlt (by omega) (by omega)), fun _ => ?_⟩) | (refine ⟨fun _ => ?_, fun h => absurd h (nI_nlt (by omega) (by omega))⟩) | (refine ⟨fun h => absurd (nI_lt (by omega) (by omega)) h, fun _ => ?_⟩) | (refine ⟨fun _ => ?_, fun h => absurd (nI_lt (by omega) (by omega)) h⟩) | (refine ⟨fun h => absurd ((nI_eq (by omega) (by omega)).mp h) (by omega), fun _ => ?_⟩) | (refine ⟨fun _ => ?_, fun h => absurd ((nI_eq (by omega) (by omega)).mp h) (by omega)⟩) | (refine ⟨fun h => absurd h (by decide), fun _ => ?_⟩) | (refine ⟨fun _ => ?_, fun h => absurd h (by decide)⟩) | (refine ⟨fun h => absurd rfl h, fun _ => ?_⟩) | (refine ⟨fun _ => ?_, fun h => absurd rfl h⟩)))
  refine ⟨by decide, ?_⟩
  rw [k4' dp hd, va_rf_s]
  have hb := k14 dp hd
  refine px_cV rfl rfl kX7_becomeEmpty rfl (c_P_becomeEmpty (d := d) hb ?_) (Nat.le_refl _) hb rfl rfl rfl (Nat.le_of_ble_eq_true rfl) (Nat.zero_le _) (Nat.zero_le _)
  (repeat (first | (refine px_st rfl rfl ?_; simp only [px_wp, px_at, px_set, px_set2, px_clr, px_ldi, px_ldl, px_lda, px_i1, px_i2, px_l1, px_l2, px_il, px_a1, px_r1, px_r2, px_ir, px_vir, px_g, px_v1, px_v2, px_gf, px_pf, px_ps, px_ar, px_nth, px_upd, px_zero, px_dfl, px_put_self, px_put_ne, px_sw, nI_add, pk_mul, true_and, and_true, Nat.reduceAdd, Nat.reduceLT, Nat.reduceEqDiff, List.length_cons, List.length_nil, true_or, or_true, List.set_set, ne_eq, not_false_eq_true, Fin.isValue, Fin.val_zero, Fin.val_one, Fin.val_two, reduceCtorEq, Option.map_some, List.length_set, Nat.zero_lt_succ, Option.toList_some, Option.toList_none, List.cons_append, List.nil_append, px_b_2, IA, LA, BA, ZA, QA, PT, DR, TL, MC, CD, CC, false_and, or_false, false_or, nar_b, nar_0, nar_1, nar_y]) | (refine ⟨_, rfl, by omega, ?_⟩) | (refine ⟨fun h => absurd h (nI_nlt (by omega) (by omega)), fun _ => ?_⟩) | (refine ⟨fun _ => ?_, fun h => absurd h (nI_nlt (by omega) (by omega))⟩) | (refine ⟨fun h => absurd (nI_lt (by omega) (by omega)) h, fun _ => ?_⟩) | (refine ⟨fun _ => ?_, fun h => absurd (nI_lt (by omega) (by omega)) h⟩) | (refine ⟨fun h => absurd ((nI_eq (by omega) (by omega)).mp h) (by omega), fun _ => ?_⟩) | (refine ⟨fun _ => ?_, fun h => absurd ((nI_eq (by omega) (by omega)).mp h) (by omega)⟩) | (refine ⟨fun h => absurd h (by decide), fun _ => ?_⟩) | (refine ⟨fun _ => ?_, fun h => absurd h (by decide)⟩) | (refine ⟨fun h => absurd rfl h, fun _ => ?_⟩) | (refine ⟨fun _ => ?_, fun h => absurd rfl h⟩)))
  refine px_return rfl rfl (Nat.le_refl _) (Nat.le_refl _) (hQ _ (fr_rd ?_ (by omega) (by omega)) (pC_row k0 hd pEm))
  subst hph1
  exact fr_rd fr_id (by omega) (by omega)
set_option maxRecDepth 100000 in
set_option maxHeartbeats 4000000 in
theorem c_R_link {o q : Nat} {x y : PTt} (hpl : pl ≤ 128) (h : pC dp pl al rw pc tk fl fh ph) (ho8 : ¬ o = 7 ∧ ¬ o = 8) (hq8 : ¬ q = 7 ∧ ¬ q = 8) (ho : ph[o]? = some (ptE x)) (hq : ph[q]? = some (ptE y)) (hQ : ∀ ph', fr (FR [2]) ph ph' → (∀ k, ¬ k = 7 → ¬ k = 8 → ph'[k]? = ph[k]?) → pC dp pl al rw pc tk (pLk pl x y.1 fl) (pLk pl x y.2.1 fh) ph' → Q none ph') : px_Met G mX8_link (d + 1) 0 0 [.ref 2, .ref o, .ref q] ph Q := by
  have h0 := h
  obtain ⟨⟨rl, rh, h2⟩, -, -, -, -, -, -, h7, h8, -⟩ := h
  refine px_start kX8_link (Nat.le_of_ble_eq_true rfl) ?_
  show px_W G _ _ _ _ _ 0 0 0 [some (.ref 2), some (.ref o), some (.ref q), none] [] ph
  have loop : ∀ (r i : Nat) (f g : Nat → Int64), i + r = pl → (∀ j, f j = if j < i ∧ eA x j = true then fl j ||| y.1 else fl j) → (∀ j, g j = if j < i ∧ eA x j = true then fh j ||| y.2.1 else fh j) → px_W G mX8_link (d + 1) 0 0 Q 0 0 2 [some (.ref 2), some (.ref o), some (.ref q), some (.int (nI i))] [] ((ph.set 7 (LA 128 f)).set 8 (LA 128 g)) := by
    intro r
    induction r with
    | zero =>
      intro i f g hi hf hg
      have hip : i = pl := by omega
      subst hip
      have ef : f = pLk i x y.1 fl := funext hf
      have eg : g = pLk i x y.2.1 fh := funext hg
      rw [ef, eg]
      (repeat (first | (refine px_st rfl rfl ?_; simp only [px_wp, px_at, px_set, px_set2, px_clr, px_ldi, px_ldl, px_lda, px_i1, px_i2, px_l1, px_l2, px_il, px_a1, px_r1, px_r2, px_ir, px_vir, px_g, px_v1, px_v2, px_gf, px_pf, px_ps, px_ar, px_nth, px_upd, px_zero, px_dfl, px_put_self, px_put_ne, px_sw, nI_add, pk_mul, true_and, and_true, Nat.reduceAdd, Nat.reduceLT, Nat.reduceEqDiff, List.length_cons, List.length_nil, true_or, or_true, List.set_set, ne_eq, not_false_eq_true, Fin.isValue, Fin.val_zero, Fin.val_one, Fin.val_two, reduceCtorEq, Option.map_some, List.length_set, Nat.zero_lt_succ, Option.toList_some, Option.toList_none, List.cons_append, List.nil_append, px_b_2, IA, LA, BA, ZA, QA, PT, DR, TL, MC, CD, CC, false_and, or_false, false_or, nar_b, nar_0, nar_1, nar_y, h2]) | (refine ⟨_, rfl, by omega, ?_⟩) | (refine ⟨fun h => absurd h (nI_nlt (by omega) (by omega)), fun _ => ?_⟩) | (refine ⟨fun _ => ?_, fun h => absurd h (nI_nlt (by omega) (by omega))⟩) | (refine ⟨fun h => absurd (nI_lt (by omega) (by omega)) h, fun _ => ?_⟩) | (refine ⟨fun _ => ?_, fun h => absurd (nI_lt (by omega) (by omega)) h⟩) | (refine ⟨fun h => absurd ((nI_eq (by omega) (by omega)).mp h) (by omega), fun _ => ?_⟩) | (refine ⟨fun _ => ?_, fun h => absurd ((nI_eq (by omega) (by omega)).mp h) (by omega)⟩) | (refine ⟨fun h => absurd h (by decide), fun _ => ?_⟩) | (refine ⟨fun _ => ?_, fun h => absurd h (by decide)⟩) | (refine ⟨fun h => absurd rfl h, fun _ => ?_⟩) | (refine ⟨fun _ => ?_, fun h => absurd rfl h⟩)))
      exact px_return rfl rfl (Nat.le_refl _) (Nat.le_refl _) (hQ _ (fr_rd (fr_rd fr_id (by omega) (by omega)) (by omega) (by omega)) (fun k a b => (px_put_ne (Ne.symm b)).trans (px_put_ne (Ne.symm a))) (pC_f h0 _ _))
    | succ r ih =>
      intro i f g hi hf hg
      have ko : ((ph.set 7 (LA 128 f)).set 8 (LA 128 g))[o]? = some (ptE x) := (px_put_ne (Ne.symm ho8.2)).trans ((px_put_ne (Ne.symm ho8.1)).trans ho)
      have kq : ((ph.set 7 (LA 128 f)).set 8 (LA 128 g))[q]? = some (ptE y) := (px_put_ne (Ne.symm hq8.2)).trans ((px_put_ne (Ne.symm hq8.1)).trans hq)
      (repeat (first | (refine px_st rfl rfl ?_; simp only [px_wp, px_at, px_set, px_set2, px_clr, px_ldi, px_ldl, px_lda, px_i1, px_i2, px_l1, px_l2, px_il, px_a1, px_r1, px_r2, px_ir, px_vir, px_g, px_v1, px_v2, px_gf, px_pf, px_ps, px_ar, px_nth, px_upd, px_zero, px_dfl, px_put_self, px_put_ne, px_sw, nI_add, pk_mul, true_and, and_true, Nat.reduceAdd, Nat.reduceLT, Nat.reduceEqDiff, List.length_cons, List.length_nil, true_or, or_true, List.set_set, ne_eq, not_false_eq_true, Fin.isValue, Fin.val_zero, Fin.val_one, Fin.val_two, reduceCtorEq, Option.map_some, List.length_set, Nat.zero_lt_succ, Option.toList_some, Option.toList_none, List.cons_append, List.nil_append, px_b_2, IA, LA, BA, ZA, QA, PT, DR, TL, MC, CD, CC, false_and, or_false, false_or, nar_b, nar_0, nar_1, nar_y, h2]) | (refine ⟨_, rfl, by omega, ?_⟩) | (refine ⟨fun h => absurd h (nI_nlt (by omega) (by omega)), fun _ => ?_⟩) | (refine ⟨fun _ => ?_, fun h => absurd h (nI_nlt (by omega) (by omega))⟩) | (refine ⟨fun h => absurd (nI_lt (by omega) (by omega)) h, fun _ => ?_⟩) | (refine ⟨fun _ => ?_, fun h => absurd (nI_lt (by omega) (by omega)) h⟩) | (refine ⟨fun h => absurd ((nI_eq (by omega) (by omega)).mp h) (by omega), fun _ => ?_⟩) | (refine ⟨fun _ => ?_, fun h => absurd ((nI_eq (by omega) (by omega)).mp h) (by omega)⟩) | (refine ⟨fun h => absurd h (by decide), fun _ => ?_⟩) | (refine ⟨fun _ => ?_, fun h => absurd h (by decide)⟩) | (refine ⟨fun h => absurd rfl h, fun _ => ?_⟩) | (refine ⟨fun _ => ?_, fun h => absurd rfl h⟩)))
      refine px_cV rfl rfl kX7_endsAt rfl (c_P_endsAt (show i < 128 by omega) ko ?_) (Nat.le_refl _) ko rfl rfl rfl (Nat.le_of_ble_eq_true rfl) (Nat.zero_le _) (Nat.zero_le _)
      rw [show bitL (if i < 64 then x.2.2.1 else x.2.2.2.1) (i % 64) = eA x i from rfl]
      cases he : eA x i with
      | false =>
        have hih := ih (i + 1) f g (by omega) (fun j => by
          rw [hf j]
          by_cases hj : j = i
          · subst hj; rw [if_neg (by omega), if_neg (fun z => by rw [he] at z; cases z.2)]
          · by_cases h1 : j < i ∧ eA x j = true
            · rw [if_pos h1, if_pos ⟨by omega, h1.2⟩]
            · rw [if_neg h1, if_neg (fun z => h1 ⟨by omega, z.2⟩)]) (fun j => by
          rw [hg j]
          by_cases hj : j = i
          · subst hj; rw [if_neg (by omega), if_neg (fun z => by rw [he] at z; cases z.2)]
          · by_cases h1 : j < i ∧ eA x j = true
            · rw [if_pos h1, if_pos ⟨by omega, h1.2⟩]
            · rw [if_neg h1, if_neg (fun z => h1 ⟨by omega, z.2⟩)])
        (repeat (first | (exact hih) | (refine px_st rfl rfl ?_; simp only [px_wp, px_at, px_set, px_set2, px_clr, px_ldi, px_ldl, px_lda, px_i1, px_i2, px_l1, px_l2, px_il, px_a1, px_r1, px_r2, px_ir, px_vir, px_g, px_v1, px_v2, px_gf, px_pf, px_ps, px_ar, px_nth, px_upd, px_zero, px_dfl, px_put_self, px_put_ne, px_sw, nI_add, pk_mul, true_and, and_true, Nat.reduceAdd, Nat.reduceLT, Nat.reduceEqDiff, List.length_cons, List.length_nil, true_or, or_true, List.set_set, ne_eq, not_false_eq_true, Fin.isValue, Fin.val_zero, Fin.val_one, Fin.val_two, reduceCtorEq, Option.map_some, List.length_set, Nat.zero_lt_succ, Option.toList_some, Option.toList_none, List.cons_append, List.nil_append, px_b_2, IA, LA, BA, ZA, QA, PT, DR, TL, MC, CD, CC, false_and, or_false, false_or, nar_b, nar_0, nar_1, nar_y]) | (refine ⟨_, rfl, by omega, ?_⟩) | (refine ⟨fun h => absurd h (nI_nlt (by omega) (by omega)), fun _ => ?_⟩) | (refine ⟨fun _ => ?_, fun h => absurd h (nI_nlt (by omega) (by omega))⟩) | (refine ⟨fun h => absurd (nI_lt (by omega) (by omega)) h, fun _ => ?_⟩) | (refine ⟨fun _ => ?_, fun h => absurd (nI_lt (by omega) (by omega)) h⟩) | (refine ⟨fun h => absurd ((nI_eq (by omega) (by omega)).mp h) (by omega), fun _ => ?_⟩) | (refine ⟨fun _ => ?_, fun h => absurd ((nI_eq (by omega) (by omega)).mp h) (by omega)⟩) | (refine ⟨fun h => absurd h (by decide), fun _ => ?_⟩) | (refine ⟨fun _ => ?_, fun h => absurd h (by decide)⟩) | (refine ⟨fun h => absurd rfl h, fun _ => ?_⟩) | (refine ⟨fun _ => ?_, fun h => absurd rfl h⟩)))
      | true =>
        have hih := ih (i + 1) (vp_updL f i (f i ||| y.1)) (vp_updL g i (g i ||| y.2.1)) (by omega) (fun j => by
          unfold vp_updL
          by_cases hj : j = i
          · subst hj; rw [if_pos rfl, if_pos ⟨by omega, he⟩, hf j, if_neg (by omega)]
          · rw [if_neg hj, hf j]
            by_cases h1 : j < i ∧ eA x j = true
            · rw [if_pos h1, if_pos ⟨by omega, h1.2⟩]
            · rw [if_neg h1, if_neg (fun z => h1 ⟨by omega, z.2⟩)]) (fun j => by
          unfold vp_updL
          by_cases hj : j = i
          · subst hj; rw [if_pos rfl, if_pos ⟨by omega, he⟩, hg j, if_neg (by omega)]
          · rw [if_neg hj, hg j]
            by_cases h1 : j < i ∧ eA x j = true
            · rw [if_pos h1, if_pos ⟨by omega, h1.2⟩]
            · rw [if_neg h1, if_neg (fun z => h1 ⟨by omega, z.2⟩)])
        have kq' : ph[q]? = some (ptE y) := hq
        (repeat (first | (exact hih) | (refine px_st rfl rfl ?_; simp only [px_wp, px_at, px_set, px_set2, px_clr, px_ldi, px_ldl, px_lda, px_i1, px_i2, px_l1, px_l2, px_il, px_a1, px_r1, px_r2, px_ir, px_vir, px_g, px_v1, px_v2, px_gf, px_pf, px_ps, px_ar, px_nth, px_upd, px_zero, px_dfl, px_put_self, px_put_ne, px_sw, nI_add, pk_mul, true_and, and_true, Nat.reduceAdd, Nat.reduceLT, Nat.reduceEqDiff, List.length_cons, List.length_nil, true_or, or_true, List.set_set, ne_eq, not_false_eq_true, Fin.isValue, Fin.val_zero, Fin.val_one, Fin.val_two, reduceCtorEq, Option.map_some, List.length_set, Nat.zero_lt_succ, Option.toList_some, Option.toList_none, List.cons_append, List.nil_append, px_b_2, IA, LA, BA, ZA, QA, PT, DR, TL, MC, CD, CC, false_and, or_false, false_or, nar_b, nar_0, nar_1, nar_y, h2, h7, h8, hq, hq8.1, hq8.2, Ne.symm hq8.1, Ne.symm hq8.2]) | (refine ⟨_, rfl, by omega, ?_⟩) | (refine ⟨fun h => absurd h (nI_nlt (by omega) (by omega)), fun _ => ?_⟩) | (refine ⟨fun _ => ?_, fun h => absurd h (nI_nlt (by omega) (by omega))⟩) | (refine ⟨fun h => absurd (nI_lt (by omega) (by omega)) h, fun _ => ?_⟩) | (refine ⟨fun _ => ?_, fun h => absurd (nI_lt (by omega) (by omega)) h⟩) | (refine ⟨fun h => absurd ((nI_eq (by omega) (by omega)).mp h) (by omega), fun _ => ?_⟩) | (refine ⟨fun _ => ?_, fun h => absurd ((nI_eq (by omega) (by omega)).mp h) (by omega)⟩) | (refine ⟨fun h => absurd h (by decide), fun _ => ?_⟩) | (refine ⟨fun _ => ?_, fun h => absurd h (by decide)⟩) | (refine ⟨fun h => absurd rfl h, fun _ => ?_⟩) | (refine ⟨fun _ => ?_, fun h => absurd rfl h⟩)))
  have hl := loop pl 0 fl fh (by omega) (fun j => by rw [if_neg (by omega)]) (fun j => by rw [if_neg (by omega)])
  rw [px_put_id h7, px_put_id h8] at hl
  (repeat (first | (exact hl) | (refine ⟨_, rfl, by omega, ?_⟩) | (refine px_st rfl rfl ?_; simp only [px_wp, px_at, px_set, px_set2, px_clr, px_ldi, px_ldl, px_lda, px_i1, px_i2, px_l1, px_l2, px_il, px_a1, px_r1, px_r2, px_ir, px_vir, px_g, px_v1, px_v2, px_gf, px_pf, px_ps, px_ar, px_nth, px_upd, px_zero, px_dfl, px_put_self, px_put_ne, px_sw, nI_add, pk_mul, true_and, and_true, Nat.reduceAdd, Nat.reduceLT, Nat.reduceEqDiff, List.length_cons, List.length_nil, true_or, or_true, List.set_set, ne_eq, not_false_eq_true, Fin.isValue, Fin.val_zero, Fin.val_one, Fin.val_two, reduceCtorEq, Option.map_some, List.length_set, Nat.zero_lt_succ, Option.toList_some, Option.toList_none, List.cons_append, List.nil_append, px_b_2, IA, LA, BA, ZA, QA, PT, DR, TL, MC, CD, CC, false_and, or_false, false_or, nar_b, nar_0, nar_1, nar_y])))
end RDR
