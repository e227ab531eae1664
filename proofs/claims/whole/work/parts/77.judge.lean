section JIN
variable {G : px_G} {pre : List px_E} {d o : Nat} {Q : Option Value → List px_E → Prop}
set_option maxRecDepth 100000 in
set_option maxHeartbeats 4000000 in
theorem c_S_init (hL : pre.length = o) (hQ : Q none (pre ++ [.inr (9, [.ref (o + 1), .ref (o + 2), .ref (o + 3), .ref (o + 4), .ref (o + 5), .ref (o + 6), .int 0]), IA 4096 zI, IA 3000 zI, IA 3000 zI, IA 3000 zI, IA 9000 zI, IA 3000 zI])) : px_Met G mX9_init (d + 1) 6 25096 [.ref o] (pre ++ [.inr (9, [.null, .null, .null, .null, .null, .null, .int 0])]) Q := by
  refine px_start kX9_init (Nat.le_of_ble_eq_true rfl) ?_
  show px_W G _ _ _ _ _ 0 0 0 [some (.ref o)] [] _
  (repeat (first | (refine ⟨_, rfl, by omega, ?_⟩) | (refine ⟨by omega, by omega, ?_⟩) | (refine ⟨by omega, ?_⟩) | (refine ⟨fun _ => ?_, fun h => absurd h (by decide)⟩) | (refine ⟨fun h => absurd h (by decide), fun _ => ?_⟩) | (refine px_objInit rfl (by omega) (Nat.le_of_ble_eq_true rfl) ?_) | (refine px_st rfl rfl ?_; simp only [px_wp, px_at, px_set, px_set2, px_clr, px_ldi, px_ldl, px_lda, px_i1, px_i2, px_l1, px_l2, px_il, px_a1, px_r1, px_r2, px_ir, px_vir, px_g, px_v1, px_v2, px_gf, px_pf, px_ps, px_ar, px_nth, px_upd, px_zero, px_dfl, nI_add, pk_mul, true_and, and_true, Nat.reduceAdd, Nat.reduceLT, Nat.reduceEqDiff, List.length_cons, List.length_nil, true_or, or_true, List.set_set, ne_eq, not_false_eq_true, Fin.isValue, Fin.val_zero, Fin.val_one, Fin.val_two, reduceCtorEq, Option.map_some, Nat.zero_lt_succ, Option.toList_some, Option.toList_none, List.cons_append, List.nil_append, px_b_2, IA, LA, BA, ZA, QA, PT, DR, TL, MC, CD, CC, List.append_assoc, List.length_append, List.getElem?_cons_zero, List.getElem?_cons_succ, List.set_cons_zero, List.set_cons_succ, Nat.reduceSub, Nat.reduceLeDiff, Nat.zero_add, px_pre hL (Nat.le_refl _), px_preS hL (Nat.le_refl _), hL, Nat.sub_self])))
  exact px_return rfl rfl (by omega) (by omega) hQ
set_option maxRecDepth 100000 in
set_option maxHeartbeats 4000000 in
theorem c_J_init {oc am kind : Nat} (hL : pre.length = o) (hQ : Q none (pre ++ [.inr (5, [.ref oc, .int (nI kind), .ref am, .ref (o + 1), .int 0, .int 0]), IA 3 zI])) : px_Met G mX5_init (d + 1) 1 3 [.ref o, .ref oc, .int (nI kind), .ref am] (pre ++ [.inr (5, [.null, .int 0, .null, .null, .int 0, .int 0])]) Q := by
  refine px_start kX5_init (Nat.le_of_ble_eq_true rfl) ?_
  show px_W G _ _ _ _ _ 0 0 0 [some (.ref o), some (.ref oc), some (.int (nI kind)), some (.ref am)] [] _
  (repeat (first | (refine ⟨_, rfl, by omega, ?_⟩) | (refine ⟨by omega, by omega, ?_⟩) | (refine ⟨by omega, ?_⟩) | (refine ⟨fun _ => ?_, fun h => absurd h (by decide)⟩) | (refine ⟨fun h => absurd h (by decide), fun _ => ?_⟩) | (refine px_objInit rfl (by omega) (Nat.le_of_ble_eq_true rfl) ?_) | (refine px_st rfl rfl ?_; simp only [px_wp, px_at, px_set, px_set2, px_clr, px_ldi, px_ldl, px_lda, px_i1, px_i2, px_l1, px_l2, px_il, px_a1, px_r1, px_r2, px_ir, px_vir, px_g, px_v1, px_v2, px_gf, px_pf, px_ps, px_ar, px_nth, px_upd, px_zero, px_dfl, nI_add, pk_mul, true_and, and_true, Nat.reduceAdd, Nat.reduceLT, Nat.reduceEqDiff, List.length_cons, List.length_nil, true_or, or_true, List.set_set, ne_eq, not_false_eq_true, Fin.isValue, Fin.val_zero, Fin.val_one, Fin.val_two, reduceCtorEq, Option.map_some, Nat.zero_lt_succ, Option.toList_some, Option.toList_none, List.cons_append, List.nil_append, px_b_2, IA, LA, BA, ZA, QA, PT, DR, TL, MC, CD, CC, List.append_assoc, List.length_append, List.getElem?_cons_zero, List.getElem?_cons_succ, List.set_cons_zero, List.set_cons_succ, Nat.reduceSub, Nat.reduceLeDiff, Nat.zero_add, px_pre hL (Nat.le_refl _), px_preS hL (Nat.le_refl _), hL, Nat.sub_self])))
  exact px_return rfl rfl (by omega) (by omega) hQ
end JIN
/-- cells that a judge leaves -/
def PJ (os : Nat) : Nat → px_E → Prop := fun k e => ¬ k = 0 ∧ (153 ≤ k → small e ∨ k < os ∨ os + 6 < k)
theorem grp_in {k g : Nat} (h : grp k = g) (h0 : ¬ g = 0) (h8 : ¬ g = 8) (h10 : ¬ g = 10) (h12 : ¬ g = 12) : ¬ k = 0 ∧ k < 153 ∧ ¬ (k = 100 ∨ (136 ≤ k ∧ k ≤ 141)) := by
  refine ⟨fun q => ?_, ?_, fun q => ?_⟩
  · subst q; exact h0 (by rw [← h]; rfl)
  · rcases Nat.lt_or_ge k 153 with q | q
    · exact q
    · exact absurd (by rw [← h]; exact grp_dy q) h12
  · rcases (show k = 100 ∨ k = 136 ∨ k = 137 ∨ k = 138 ∨ k = 139 ∨ k = 140 ∨ k = 141 by omega) with rfl | rfl | rfl | rfl | rfl | rfl | rfl
    · exact h10 (by rw [← h]; rfl)
    · exact h8 (by rw [← h]; rfl)
    · exact h8 (by rw [← h]; rfl)
    · exact h8 (by rw [← h]; rfl)
    · exact h8 (by rw [← h]; rfl)
    · exact h8 (by rw [← h]; rfl)
    · exact h8 (by rw [← h]; rfl)
theorem isS_FG {ph ph' : List px_E} {os : Nat} {pl : Nat → Int32} (hf : fr FG ph ph') (h : isS ph os pl) : isS ph' os pl := by
  obtain ⟨g0, ⟨c, g1⟩, g2, g3, g4, g5, g6, g7⟩ := h
  have r : ∀ k, 153 ≤ k → ∀ e, FG k e := fun k h e => FG_lt (by omega)
  exact ⟨g0, ⟨c, hf _ _ (r _ g0 _) g1⟩, g2.fr hf (r _ (by omega)), g3.fr hf (r _ (by omega)), g4.fr hf (r _ (by omega)), g5.fr hf (r _ (by omega)), g6.fr hf (r _ (by omega)), hf _ _ (r _ (by omega) _) g7⟩
theorem isS_out {ph : List px_E} {os : Nat} {pl : Nat → Int32} (h : isS ph os pl) {q : Nat} {e : px_E} (h1 : ph[q]? = some e) (h3 : small e) : q < os ∨ os + 6 < q := by
  obtain ⟨r0, ⟨cc, r1⟩, ⟨x1, r2⟩, ⟨x2, r3⟩, ⟨x3, r4⟩, ⟨x4, r5⟩, ⟨x5, r6⟩, r7⟩ := h
  rcases Nat.lt_or_ge q os with z | z
  · exact Or.inl z
  · rcases Nat.lt_or_ge (os + 6) q with z2 | z2
    · exact Or.inr z2
    · exfalso
      obtain ⟨i, hi, rfl⟩ : ∃ i, i ≤ 6 ∧ q = os + i := ⟨q - os, by omega, by omega⟩
      rcases (show i = 0 ∨ i = 1 ∨ i = 2 ∨ i = 3 ∨ i = 4 ∨ i = 5 ∨ i = 6 by omega) with rfl | rfl | rfl | rfl | rfl | rfl | rfl
      · have h1 : ph[os]? = some e := h1
        rw [r1] at h1; cases h1; exact absurd h3 (by show ¬ (9 = 6); omega)
      · rw [r2] at h1; cases h1; exact absurd h3 (by show ¬ (4096 ≤ 576); omega)
      · rw [r3] at h1; cases h1; exact absurd h3 (by show ¬ (3000 ≤ 576); omega)
      · rw [r4] at h1; cases h1; exact absurd h3 (by show ¬ (3000 ≤ 576); omega)
      · rw [r5] at h1; cases h1; exact absurd h3 (by show ¬ (3000 ≤ 576); omega)
      · rw [r6] at h1; cases h1; exact absurd h3 (by show ¬ (9000 ≤ 576); omega)
      · rw [r7] at h1; cases h1; exact absurd h3 (by show ¬ (3000 ≤ 576); omega)
section JRE
variable {S : Nat → List Nat} {bk : Nat → Bool} {c c' : Nat} {sh cf rk lv fo dp : Nat → Nat} {pl : Nat → Nat} {br : Option Nat}
/-- the same shapes are found -/
theorem gM_X (h : gM S bk pl c sh cf rk lv br) (hc : c ≤ 3000) (hx : gX S) : False := by
  obtain ⟨f, h1, h2⟩ := hx
  have := g_card (m := 3001) (c := c) (sh := f) (fo := sh) h1 (fun a ha => by
    obtain ⟨k, hk⟩ := h2 a ha
    exact gM_all h k _ hk)
  omega
theorem bI_gX (h : bI S c c fo dp) (hc : c ≤ 3000) (hx : gX S) : False := by
  obtain ⟨f, h1, h2⟩ := hx
  have := g_card (m := 3001) (c := c) (sh := f) (fo := fo) h1 (fun a ha => by
    obtain ⟨k, hk⟩ := h2 a ha
    exact bI_all h k _ hk)
  omega
theorem gM_c (h : gM S bk pl c sh cf rk lv br) (hb : bI S c' c' fo dp) : c = c' := by
  have h1 : c ≤ c' := g_card (sh := sh) (fo := fo) h.2.1 (fun a ha => bI_all hb _ _ (h.2.2.1 a ha).1)
  have h2 : c' ≤ c := g_card (sh := fo) (fo := sh) hb.2.1 (fun a ha => gM_all h _ _ (hb.2.2.1 a ha).1)
  omega
end JRE
