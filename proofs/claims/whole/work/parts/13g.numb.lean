section CPA
variable {G : px_G} {M M' : px_M} {d mc ms d' mc' ms' : Nat} {Post : Option Value → List px_E → Prop} {k n pc nx a pos f i o ci : Nat} {v : Int32} {pl : List (Option Value)} {st as rest fs : List Value} {ph : List px_E}
theorem px_cSA (hI : px_look (px_code M) pc = some (.invokestatic i, nx, a, 0, pos, v, f)) (ha : px_ys[a]? = some (px_name M')) (hc' : px_chk M') (hk' : px_kind M' = 2) (hM : px_Met G M' d' mc' ms' as ph (fun r ph' => px_W G M d mc ms Post (k + mc') (n + ms') nx pl (r.toList ++ rest) ph')) (hd' : d' + 1 ≤ d) (hst : st = as.reverse ++ rest) (hn' : as.length = px_np M') (hw : (rest.map fun v => v.category).sum ≤ 8) (hmc : k + mc' ≤ mc) (hms : n + ms' ≤ ms) : px_W G M d mc ms Post k n pc pl st ph :=
  px_callS hI ha hc' hk' hM hd' hst hn' hw hmc hms (fun _ _ h => h)
theorem px_cVA (hI : px_look (px_code M) pc = some (.invokevirtual i, nx, a, 0, pos, v, f)) (ha : px_ys[a]? = some (px_name M')) (hc' : px_chk M') (hk' : px_kind M' = 0) (hM : px_Met G M' d' mc' ms' (.ref o :: as) ph (fun r ph' => px_W G M d mc ms Post (k + mc') (n + ms') nx pl (r.toList ++ rest) ph')) (hd' : d' + 1 ≤ d) (ho : ph[o]? = some (.inr (ci, fs))) (hci : (vwCl[ci]?).map (fun r => r.1) = some (px_name M').cls) (hst : st = as.reverse ++ .ref o :: rest) (hn' : as.length = px_np M') (hw : (rest.map fun v => v.category).sum ≤ 8) (hmc : k + mc' ≤ mc) (hms : n + ms' ≤ ms) : px_W G M d mc ms Post k n pc pl st ph :=
  px_callV hI ha hc' hk' hM hd' ho hci hst hn' hw hmc hms (fun _ _ h => h)
theorem px_cI (hI : px_look (px_code M) pc = some (.invokespecial i, nx, a, 0, pos, v, f)) (ha : px_ys[a]? = some (px_name M')) (hc' : px_chk M') (hk' : px_kind M' = 1) (hr' : px_ret M' = none) (hM : px_Met G M' d' mc' ms' (.ref o :: as) ph (fun r ph' => px_W G M d mc ms Post (k + mc') (n + ms') nx pl (r.toList ++ rest) ph')) (hd' : d' + 1 ≤ d) (hst : st = as.reverse ++ .ref o :: rest) (hn' : as.length = px_np M') (hw : (rest.map fun v => v.category).sum ≤ 8) (hmc : k + mc' ≤ mc) (hms : n + ms' ≤ ms) : px_W G M d mc ms Post k n pc pl st ph :=
  px_callI hI ha hc' hk' hr' hM hd' hst hn' hw hmc hms (fun _ _ h => h)
theorem px_cIN (hI : px_look (px_code M) pc = some (.invokespecial i, nx, a, 1, pos, v, f)) (ha : px_ys[a]? = some (px_name M')) (hc' : px_chk M') (hk' : px_kind M' = 1) (hr' : px_ret M' = none) (hM : px_Met G M' d' mc' ms' (.ref o :: as) ph (fun r ph' => px_W G M d mc ms Post (k + mc') (n + ms') nx pl (r.toList ++ rest) ph')) (hd' : d' + 1 ≤ d) (hst : st = as.reverse ++ .ref o :: rest) (hn' : as.length = px_np M') (hw : (rest.map fun v => v.category).sum ≤ 8) (hmc : k + mc' ≤ mc) (hms : n + ms' ≤ ms) : px_W G M d mc ms Post k n pc pl st ph :=
  px_callIN hI ha hc' hk' hr' hM hd' hst hn' hw hmc hms (fun _ _ h => h)
end CPA
theorem nmE_ge (nx : Nat → Nat → Option Nat) (g : Nat → Nat) (u node : Nat) : ∀ (m e kn : Nat) (nb : Nat → Option Nat) (hd : Nat → Nat) (ln : Nat → Option Nat), kn ≤ (nmE nx g u node m e kn nb hd ln).1
  | 0, e, kn, nb, hd, ln => Nat.le_refl _
  | m + 1, e, kn, nb, hd, ln => by
    unfold nmE
    split
    · exact nmE_ge nx g u node m (e + 1) kn nb hd _
    · split
      · exact Nat.le_trans (Nat.le_succ _) (nmE_ge nx g u node m (e + 1) (kn + 1) _ _ _)
      · exact nmE_ge nx g u node m (e + 1) kn nb hd _
theorem px_app3 {H : List px_E} {a b c x : px_E} : (((H ++ [a]) ++ [b]) ++ [c]).set H.length x = H ++ [x, b, c] := by simp
/-- there are no more different numbers than places -/
theorem pigeon : ∀ (m n : Nat) (p : Nat → Nat), (∀ i, i < n → p i < m) → (∀ i j, i < n → j < n → p i = p j → i = j) → n ≤ m
  | 0, n, p, h1, h2 => by
    rcases Nat.eq_zero_or_pos n with h | h
    · omega
    · exact absurd (h1 0 h) (by omega)
  | m + 1, n, p, h1, h2 => by
    by_cases hx : ∃ i, i < n ∧ p i = m
    · obtain ⟨a, ha, hpa⟩ := hx
      have := pigeon m (n - 1) (fun i => if i < a then p i else p (i + 1)) (fun i hi => by
        by_cases hia : i < a
        · simp only [hia, if_true]
          have h3 := h1 i (by omega)
          have h4 : p i ≠ m := fun q => by have := h2 i a (by omega) ha (q.trans hpa.symm); omega
          omega
        · simp only [hia, if_false]
          have h3 := h1 (i + 1) (by omega)
          have h4 : p (i + 1) ≠ m := fun q => by have := h2 (i + 1) a (by omega) ha (q.trans hpa.symm); omega
          omega) (fun i j hi hj hij => by
        by_cases hia : i < a <;> by_cases hja : j < a <;> simp only [hia, hja, if_true, if_false] at hij
        · exact h2 i j (by omega) (by omega) hij
        · have := h2 i (j + 1) (by omega) (by omega) hij; omega
        · have := h2 (i + 1) j (by omega) (by omega) hij; omega
        · have := h2 (i + 1) (j + 1) (by omega) (by omega) hij; omega)
      omega
    · have := pigeon m n p (fun i hi => by
        have h3 := h1 i hi
        have h4 : p i ≠ m := fun q => hx ⟨i, hi, q⟩
        omega) h2
      omega
theorem nR_le {c gr kn : Nat} {nb : Nat → Option Nat} (h : ∀ i, i < kn → ∃ k, k < gr ∧ nb k = some i) : kn ≤ gr := by
  have h' : ∀ i, ∃ k, i < kn → k < gr ∧ nb k = some i := fun i => by
    by_cases hi : i < kn
    · obtain ⟨k, hk⟩ := h i hi
      exact ⟨k, fun _ => hk⟩
    · exact ⟨0, fun q => absurd q hi⟩
  refine pigeon gr kn (fun i => Classical.choose (h' i)) (fun i hi => (Classical.choose_spec (h' i) hi).1) (fun i j hi hj hij => ?_)
  have h1 := (Classical.choose_spec (h' i) hi).2
  have h2 := (Classical.choose_spec (h' j) hj).2
  have hij : Classical.choose (h' i) = Classical.choose (h' j) := hij
  rw [hij, h2] at h1
  exact (Option.some.inj h1).symm
section NUM2
variable {G : px_G} {ph : List px_E} {d c gr : Nat} {Q : Option Value → List px_E → Prop} {f ea ga y0 n0 l0 e0 : Nat → Int32} {nx : Nat → Nat → Option Nat} {g : Nat → Nat} {en : Nat → Bool}
set_option maxRecDepth 100000 in
set_option maxHeartbeats 4000000 in
theorem c_D_numbered (hc : c ≤ 100) (hc1 : 1 ≤ c) (hgr : gr ≤ 24) (h35 : ph[35]? = some (DR c)) (h36 : ph[36]? = some (IA 2400 f)) (h37 : ph[37]? = some (IA 100 ea)) (h38 : ph[38]? = some (IA 100 ga)) (h40 : ph[40]? = some (IA 24 y0)) (h41 : ph[41]? = some (IA 24 n0)) (h42 : ph[42]? = some (IA 576 l0)) (h43 : ph[43]? = some (IA 24 e0)) (hf : RNX c f nx) (hg : RG c ga g) (hgl : ∀ i, i < c → g i < gr) (he : ∀ i, i < c → ea i = px_b (en i))
    (hQ : ∀ (kn : Nat) (ln : Nat → Option Nat) (le : Nat → Bool), nmS nx g en gr 25 0 1 (va_up (fun _ => none) (g 0) (some 0)) (fun _ => 0) (fun _ => none) (fun _ => false) = (kn, ln, le) → 1 ≤ kn → kn ≤ 24 → ∀ (y na la lea w1 w2 : Nat → Int32), (∀ i, i < kn * 24 → w1 i = oI (ln i)) → (∀ i, i < kn → w2 i = px_b (le i)) → Q (some (.ref ph.length)) (nH ph y na la lea ++ [MC kn (sL w1 (kn * 24)) (ph.length + 1) (ph.length + 2), IA (kn * 24) w1, IA kn w2])) : px_Met G mX3_numbered (d + 2) 3 604 [.ref 35, .int (nI gr)] ph Q := by
  refine px_start kX3_numbered (Nat.le_of_ble_eq_true rfl) ?_
  show px_W G _ _ _ _ _ 0 0 0 [some (.ref 35), some (.int (nI gr)), none, none, none, none, none] [] ph
  (repeat (first | (refine ⟨_, rfl, by omega, ?_⟩) | (refine px_st rfl rfl ?_; simp only [px_wp, px_at, px_set, px_set2, px_clr, px_ldi, px_ldl, px_lda, px_i1, px_i2, px_l1, px_l2, px_il, px_a1, px_r1, px_r2, px_ir, px_vir, px_g, px_v1, px_v2, px_gf, px_pf, px_ps, px_ar, px_nth, px_upd, px_zero, px_dfl, px_put_self, px_put_ne, px_sw, nI_add, pk_mul, true_and, and_true, Nat.reduceAdd, Nat.reduceLT, Nat.reduceEqDiff, List.length_cons, List.length_nil, true_or, or_true, List.set_set, ne_eq, not_false_eq_true, Fin.isValue, Fin.val_zero, Fin.val_one, Fin.val_two, reduceCtorEq, Option.map_some, List.length_set, Nat.zero_lt_succ, Option.toList_some, Option.toList_none, List.cons_append, List.nil_append, px_b_2, IA, LA, BA, ZA, QA, PT, DR, TL, MC, CD, CC, h35, h41])))
  refine px_cS rfl rfl kJ7_fill_53178 rfl (c_fill (by decide) h41 ?_) (Nat.le_refl _) rfl rfl (Nat.le_of_ble_eq_true rfl) (Nat.zero_le _) (Nat.zero_le _)
  have hg0 := hg 0 (by omega)
  have hg0l := hgl 0 (by omega)
  generalize hT : nmS nx g en gr 25 0 1 (va_up (fun _ => none) (g 0) (some 0)) (fun _ => 0) (fun _ => none) (fun _ => false) = T at hQ
  have fin : ∀ (kn u : Nat) (nb : Nat → Option Nat) (hd : Nat → Nat) (ln : Nat → Option Nat) (le : Nat → Bool) (y na la lea : Nat → Int32) (x4 x5 x6 : Option Value), kn ≤ u → (kn, ln, le) = T → nR c gr kn nb hd ln y na la (u * 24) → (∀ i, i < u → lea i = px_b (le i)) → px_W G mX3_numbered (d + 2) 3 604 Q 0 0 181 [some (.ref 35), some (.int (nI gr)), some (.int (nI kn)), some (.int (nI u)), x4, x5, x6] [] (nH ph y na la lea) := by
    intro kn u nb hd ln le y na la lea x4 x5 x6 hle hr hR hlea
    obtain ⟨r0, r1, r2, r3, r4, r5, r6⟩ := hR
    have hQ' := hQ kn ln le hr.symm r0 r1 y na la lea
    have hlen : (nH ph y na la lea).length = ph.length := by simp
    have e35 : (nH ph y na la lea)[35]? = some (DR c) := (px_put_ne (by decide)).trans ((px_put_ne (by decide)).trans ((px_put_ne (by decide)).trans ((px_put_ne (by decide)).trans h35)))
    have e42 : (nH ph y na la lea)[42]? = some (IA 576 la) := (px_put_ne (by decide)).trans (px_put_self.trans (by rw [px_put_ne (by decide), px_put_ne (by decide), h42]; rfl))
    have e43 : (nH ph y na la lea)[43]? = some (IA 24 lea) := px_put_self.trans (by rw [px_put_ne (by decide), px_put_ne (by decide), px_put_ne (by decide), h43]; rfl)
    generalize nH ph y na la lea = H at hlen e35 e42 e43 hQ'
    (repeat (first | (refine ⟨_, rfl, by omega, ?_⟩) | (refine px_st rfl rfl ?_; simp only [px_wp, px_at, px_set, px_set2, px_clr, px_ldi, px_ldl, px_lda, px_i1, px_i2, px_l1, px_l2, px_il, px_a1, px_r1, px_r2, px_ir, px_vir, px_g, px_v1, px_v2, px_gf, px_pf, px_ps, px_ar, px_nth, px_upd, px_zero, px_dfl, px_put_self, px_put_ne, px_sw, nI_add, pk_mul, true_and, and_true, Nat.reduceAdd, Nat.reduceLT, Nat.reduceEqDiff, List.length_cons, List.length_nil, true_or, or_true, List.set_set, ne_eq, not_false_eq_true, Fin.isValue, Fin.val_zero, Fin.val_one, Fin.val_two, reduceCtorEq, Option.map_some, List.length_set, Nat.zero_lt_succ, Option.toList_some, Option.toList_none, List.cons_append, List.nil_append, px_b_2, IA, LA, BA, ZA, QA, PT, DR, TL, MC, CD, CC])))
    refine ⟨by omega, by omega, ?_⟩
    (repeat (first | (refine ⟨_, rfl, by omega, ?_⟩) | (refine px_st rfl rfl ?_; simp only [px_wp, px_at, px_set, px_set2, px_clr, px_ldi, px_ldl, px_lda, px_i1, px_i2, px_l1, px_l2, px_il, px_a1, px_r1, px_r2, px_ir, px_vir, px_g, px_v1, px_v2, px_gf, px_pf, px_ps, px_ar, px_nth, px_upd, px_zero, px_dfl, px_put_self, px_put_ne, px_sw, nI_add, pk_mul, true_and, and_true, Nat.reduceAdd, Nat.reduceLT, Nat.reduceEqDiff, List.length_cons, List.length_nil, true_or, or_true, List.set_set, ne_eq, not_false_eq_true, Fin.isValue, Fin.val_zero, Fin.val_one, Fin.val_two, reduceCtorEq, Option.map_some, List.length_set, Nat.zero_lt_succ, Option.toList_some, Option.toList_none, List.cons_append, List.nil_append, px_b_2, IA, LA, BA, ZA, QA, PT, DR, TL, MC, CD, CC, px_app e35])))
    refine px_cSA rfl rfl kJ7_copyOf_59c91 rfl (c_copyOf (L := kn * 24) (by omega) (by omega) (px_app e42) (fun w1 hw1 => ?_)) (Nat.le_refl _) rfl rfl (Nat.le_of_ble_eq_true rfl) (by omega) (by omega)
    (repeat (first | (refine ⟨_, rfl, by omega, ?_⟩) | (refine px_st rfl rfl ?_; simp only [px_wp, px_at, px_set, px_set2, px_clr, px_ldi, px_ldl, px_lda, px_i1, px_i2, px_l1, px_l2, px_il, px_a1, px_r1, px_r2, px_ir, px_vir, px_g, px_v1, px_v2, px_gf, px_pf, px_ps, px_ar, px_nth, px_upd, px_zero, px_dfl, px_put_self, px_put_ne, px_sw, nI_add, pk_mul, true_and, and_true, Nat.reduceAdd, Nat.reduceLT, Nat.reduceEqDiff, List.length_cons, List.length_nil, true_or, or_true, List.set_set, ne_eq, not_false_eq_true, Fin.isValue, Fin.val_zero, Fin.val_one, Fin.val_two, reduceCtorEq, Option.map_some, List.length_set, Nat.zero_lt_succ, Option.toList_some, Option.toList_none, List.cons_append, List.nil_append, px_b_2, IA, LA, BA, ZA, QA, PT, DR, TL, MC, CD, CC, px_app (px_app e35)])))
    refine px_cSA rfl rfl kJ7_copyOf_59c91 rfl (c_copyOf (L := kn) (by omega) (by omega) (px_app (px_app e43)) (fun w2 hw2 => ?_)) (Nat.le_refl _) rfl rfl (Nat.le_of_ble_eq_true rfl) (by omega) (by omega)
    (repeat (first | (refine ⟨_, rfl, by omega, ?_⟩) | (refine px_st rfl rfl ?_; simp only [px_wp, px_at, px_set, px_set2, px_clr, px_ldi, px_ldl, px_lda, px_i1, px_i2, px_l1, px_l2, px_il, px_a1, px_r1, px_r2, px_ir, px_vir, px_g, px_v1, px_v2, px_gf, px_pf, px_ps, px_ar, px_nth, px_upd, px_zero, px_dfl, px_put_self, px_put_ne, px_sw, nI_add, pk_mul, true_and, and_true, Nat.reduceAdd, Nat.reduceLT, Nat.reduceEqDiff, List.length_cons, List.length_nil, true_or, or_true, List.set_set, ne_eq, not_false_eq_true, Fin.isValue, Fin.val_zero, Fin.val_one, Fin.val_two, reduceCtorEq, Option.map_some, List.length_set, Nat.zero_lt_succ, Option.toList_some, Option.toList_none, List.cons_append, List.nil_append, px_b_2, IA, LA, BA, ZA, QA, PT, DR, TL, MC, CD, CC])))
    have hl1 : (H ++ [(.inr (6, [.int 0, .int 0, .null, .null]) : px_E)]).length = ph.length + 1 := by simp [hlen]
    have hl2 : (H ++ [(.inr (6, [.int 0, .int 0, .null, .null]) : px_E)] ++ [IA (kn * 24) w1]).length = ph.length + 2 := by simp [hlen]
    refine px_cI rfl rfl kX6_init rfl rfl (c_M_init (o := H.length) (p := (H ++ [(.inr (6, [.int 0, .int 0, .null, .null]) : px_E)]).length) (q := (H ++ [(.inr (6, [.int 0, .int 0, .null, .null]) : px_E)] ++ [IA (kn * 24) w1]).length) (s := kn) (f := w1) (by omega) (px_app (px_app px_app_l)) (px_app px_app_l) (by rw [hl1, hlen]; omega) ?_) (Nat.le_refl _) rfl rfl (Nat.le_of_ble_eq_true rfl) (by omega) (by omega)
    rw [px_app3, hl1, hl2, hlen]
    (repeat (first | (refine ⟨_, rfl, by omega, ?_⟩) | (refine px_st rfl rfl ?_; simp only [px_wp, px_at, px_set, px_set2, px_clr, px_ldi, px_ldl, px_lda, px_i1, px_i2, px_l1, px_l2, px_il, px_a1, px_r1, px_r2, px_ir, px_vir, px_g, px_v1, px_v2, px_gf, px_pf, px_ps, px_ar, px_nth, px_upd, px_zero, px_dfl, px_put_self, px_put_ne, px_sw, nI_add, pk_mul, true_and, and_true, Nat.reduceAdd, Nat.reduceLT, Nat.reduceEqDiff, List.length_cons, List.length_nil, true_or, or_true, List.set_set, ne_eq, not_false_eq_true, Fin.isValue, Fin.val_zero, Fin.val_one, Fin.val_two, reduceCtorEq, Option.map_some, List.length_set, Nat.zero_lt_succ, Option.toList_some, Option.toList_none, List.cons_append, List.nil_append, px_b_2, IA, LA, BA, ZA, QA, PT, DR, TL, MC, CD, CC])))
    refine px_areturn rfl rfl (Or.inl ⟨_, rfl⟩) (Or.inr ⟨_, rfl⟩) (by omega) (by omega) (hQ' w1 w2 (fun i hi => ?_) (fun i hi => ?_))
    · rw [hw1 i hi]; exact r5 i (by omega)
    · rw [hw2 i hi]; exact hlea i (by omega)
  have key : ∀ (m u kn : Nat) (nb : Nat → Option Nat) (hd : Nat → Nat) (ln : Nat → Option Nat) (le : Nat → Bool) (y na la lea : Nat → Int32) (x4 x5 x6 : Option Value), u + m = 25 → u ≤ kn → nmS nx g en gr m u kn nb hd ln le = T → nR c gr kn nb hd ln y na la (u * 24) → (∀ i, i < u → lea i = px_b (le i)) → px_W G mX3_numbered (d + 2) 3 604 Q 0 0 32 [some (.ref 35), some (.int (nI gr)), some (.int (nI kn)), some (.int (nI u)), x4, x5, x6] [] (nH ph y na la lea) := by
    intro m
    induction m with
    | zero =>
      intro u kn nb hd ln le y na la lea x4 x5 x6 hu huk hr hR hlea
      have := hR.2.1
      omega
    | succ m ih =>
      intro u kn nb hd ln le y na la lea x4 x5 x6 hu huk hr hR hlea
      have hR0 := hR
      obtain ⟨r0, r1, r2, r3, r4, r5, r6⟩ := hR
      have hkg : kn ≤ gr := nR_le (c := c) r6
      unfold nmS at hr
      (repeat (first | (refine ⟨_, rfl, by omega, ?_⟩) | (refine px_st rfl rfl ?_; simp only [px_wp, px_at, px_set, px_set2, px_clr, px_ldi, px_ldl, px_lda, px_i1, px_i2, px_l1, px_l2, px_il, px_a1, px_r1, px_r2, px_ir, px_vir, px_g, px_v1, px_v2, px_gf, px_pf, px_ps, px_ar, px_nth, px_upd, px_zero, px_dfl, px_put_self, px_put_ne, px_sw, nI_add, pk_mul, true_and, and_true, Nat.reduceAdd, Nat.reduceLT, Nat.reduceEqDiff, List.length_cons, List.length_nil, true_or, or_true, List.set_set, ne_eq, not_false_eq_true, Fin.isValue, Fin.val_zero, Fin.val_one, Fin.val_two, reduceCtorEq, Option.map_some, List.length_set, Nat.zero_lt_succ, Option.toList_some, Option.toList_none, List.cons_append, List.nil_append, px_b_2, IA, LA, BA, ZA, QA, PT, DR, TL, MC, CD, CC])))
      refine ⟨fun h => ?_, fun h => ?_⟩
      · have hge : ¬ u < kn := fun q => h (nI_lt q (by omega))
        rw [if_neg (fun q => hge q.1)] at hr
        exact fin kn u nb hd ln le y na la lea x4 x5 x6 (by omega) hr hR0 hlea
      · have hlt : u < kn := (nI_ltI (by omega) (by omega)).mp h
        (repeat (first | (refine ⟨_, rfl, by omega, ?_⟩) | (refine px_st rfl rfl ?_; simp only [px_wp, px_at, px_set, px_set2, px_clr, px_ldi, px_ldl, px_lda, px_i1, px_i2, px_l1, px_l2, px_il, px_a1, px_r1, px_r2, px_ir, px_vir, px_g, px_v1, px_v2, px_gf, px_pf, px_ps, px_ar, px_nth, px_upd, px_zero, px_dfl, px_put_self, px_put_ne, px_sw, nI_add, pk_mul, true_and, and_true, Nat.reduceAdd, Nat.reduceLT, Nat.reduceEqDiff, List.length_cons, List.length_nil, true_or, or_true, List.set_set, ne_eq, not_false_eq_true, Fin.isValue, Fin.val_zero, Fin.val_one, Fin.val_two, reduceCtorEq, Option.map_some, List.length_set, Nat.zero_lt_succ, Option.toList_some, Option.toList_none, List.cons_append, List.nil_append, px_b_2, IA, LA, BA, ZA, QA, PT, DR, TL, MC, CD, CC])))
        refine ⟨fun h2 => absurd (nI_lt (by omega) (by omega)) h2, fun _ => ?_⟩
        rw [if_pos ⟨hlt, by omega⟩] at hr
        obtain ⟨hy1, hy2⟩ := r4 u hlt
        have hen := he (hd u) hy2
        have inner := c_nmE (G := G) (d := d) (Q := Q) (u := u) (node := hd u) (lea := upd lea u (px_b (en (hd u)))) hc hgr (by omega) hy2 h35 h36 h38 h40 h41 h42 h43 hf hg hgl 24 0 kn nb hd ln y na la x6 rfl hR0 (fun y' na' la' x6' hR' => by
          have hnx : ∀ i, i < u + 1 → upd lea u (px_b (en (hd u))) i = px_b (va_up le u (en (hd u)) i) := fun i hi => by
            by_cases hiu : i = u
            · subst hiu; simp [upd, va_up]
            · simp [upd, va_up, hiu]; exact hlea i (by omega)
          have hk1 : u + 1 ≤ (nmE nx g u (hd u) 24 0 kn nb hd ln).1 := nmE_ge nx g u (hd u) 24 0 kn nb hd ln |> Nat.le_trans hlt
          (repeat (first | (exact ih (u + 1) _ _ _ _ _ y' na' la' _ _ _ _ (by omega) hk1 hr (by rw [show (u + 1) * 24 = u * 24 + 24 by omega]; exact hR') hnx) | (refine ⟨_, rfl, by omega, ?_⟩) | (refine px_st rfl rfl ?_; simp only [px_wp, px_at, px_set, px_set2, px_clr, px_ldi, px_ldl, px_lda, px_i1, px_i2, px_l1, px_l2, px_il, px_a1, px_r1, px_r2, px_ir, px_vir, px_g, px_v1, px_v2, px_gf, px_pf, px_ps, px_ar, px_nth, px_upd, px_zero, px_dfl, px_put_self, px_put_ne, px_sw, nI_add, pk_mul, true_and, and_true, Nat.reduceAdd, Nat.reduceLT, Nat.reduceEqDiff, List.length_cons, List.length_nil, true_or, or_true, List.set_set, ne_eq, not_false_eq_true, Fin.isValue, Fin.val_zero, Fin.val_one, Fin.val_two, reduceCtorEq, Option.map_some, List.length_set, Nat.zero_lt_succ, Option.toList_some, Option.toList_none, List.cons_append, List.nil_append, px_b_2, IA, LA, BA, ZA, QA, PT, DR, TL, MC, CD, CC]))))
        (repeat (first | (exact inner) | (refine ⟨_, rfl, by omega, ?_⟩) | (refine px_st rfl rfl ?_; simp only [px_wp, px_at, px_set, px_set2, px_clr, px_ldi, px_ldl, px_lda, px_i1, px_i2, px_l1, px_l2, px_il, px_a1, px_r1, px_r2, px_ir, px_vir, px_g, px_v1, px_v2, px_gf, px_pf, px_ps, px_ar, px_nth, px_upd, px_zero, px_dfl, px_put_self, px_put_ne, px_sw, nI_add, pk_mul, true_and, and_true, Nat.reduceAdd, Nat.reduceLT, Nat.reduceEqDiff, List.length_cons, List.length_nil, true_or, or_true, List.set_set, ne_eq, not_false_eq_true, Fin.isValue, Fin.val_zero, Fin.val_one, Fin.val_two, reduceCtorEq, Option.map_some, List.length_set, Nat.zero_lt_succ, Option.toList_some, Option.toList_none, List.cons_append, List.nil_append, px_b_2, IA, LA, BA, ZA, QA, PT, DR, TL, MC, CD, CC, nH, h35, h36, h37, h38, h40, h41, h42, h43, hy1, hen])))
  have e40 : ((ph.set 41 (IA 24 (va_fill n0 24 (-2)))))[40]? = some (IA 24 y0) := (px_put_ne (by decide)).trans h40
  have hR0 : nR c gr 1 (va_up (fun _ => none) (g 0) (some 0)) (fun _ => 0) (fun _ => none) (upd y0 0 (nI 0)) (upd (va_fill n0 24 (-2)) (g 0) (nI 0)) l0 (0 * 24) := by
    refine ⟨by omega, by omega, oI_up (fun k hk => by simp [va_fill, hk, oI]) rfl, fun k j hkj => ?_, fun k hk => ?_, fun i hi => absurd hi (by omega), fun i hi => ⟨g 0, hg0l, ?_⟩⟩
    · by_cases hkg : k = g 0
      · subst hkg; simp [va_up] at hkj; omega
      · simp [va_up, hkg] at hkj
    · have hk0 : k = 0 := by omega
      subst hk0
      exact ⟨by simp [upd], show 0 < c by omega⟩
    · have hi0 : i = 0 := by omega
      subst hi0
      simp [va_up]
  have start := key 25 0 1 (va_up (fun _ => none) (g 0) (some 0)) (fun _ => 0) (fun _ => none) (fun _ => false) (upd y0 0 (nI 0)) (upd (va_fill n0 24 (-2)) (g 0) (nI 0)) l0 e0 none none none rfl (by omega) hT hR0 (fun i hi => absurd hi (by omega))
  unfold nH at start
  rw [px_put_id (e := IA 576 l0) ((px_put_ne (by decide)).trans ((px_put_ne (by decide)).trans h42)), px_put_id (e := IA 24 e0) ((px_put_ne (by decide)).trans ((px_put_ne (by decide)).trans h43))] at start
  (repeat (first | (exact start) | (refine ⟨_, rfl, by omega, ?_⟩) | (refine px_st rfl rfl ?_; simp only [px_wp, px_at, px_set, px_set2, px_clr, px_ldi, px_ldl, px_lda, px_i1, px_i2, px_l1, px_l2, px_il, px_a1, px_r1, px_r2, px_ir, px_vir, px_g, px_v1, px_v2, px_gf, px_pf, px_ps, px_ar, px_nth, px_upd, px_zero, px_dfl, px_put_self, px_put_ne, px_sw, nI_add, pk_mul, true_and, and_true, Nat.reduceAdd, Nat.reduceLT, Nat.reduceEqDiff, List.length_cons, List.length_nil, true_or, or_true, List.set_set, ne_eq, not_false_eq_true, Fin.isValue, Fin.val_zero, Fin.val_one, Fin.val_two, reduceCtorEq, Option.map_some, List.length_set, Nat.zero_lt_succ, Option.toList_some, Option.toList_none, List.cons_append, List.nil_append, px_b_2, IA, LA, BA, ZA, QA, PT, DR, TL, MC, CD, CC, h35, h38, h40, h41, h42, h43, hg0.1])))
end NUM2
