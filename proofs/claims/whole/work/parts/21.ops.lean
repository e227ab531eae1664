theorem m_in_b (x : Int32) {N : Nat} (h : N < 2 ^ 30) : m_in x (nI 0) (nI N - nI 1) = b_below x N := by
  unfold m_in b_below
  by_cases h0 : x < nI 0
  · simp [h0]
  · obtain ⟨j, hj, rfl⟩ := nI_of (x := x) (by rw [← nI_0]; exact h0)
    rw [decide_eq_false h0]
    have e : (nI N - nI 1 < nI j) ↔ ¬ j < N := by
      rw [Int32.lt_iff_toInt_lt, nI_toInt hj, pk_sub_toInt h (by omega)]
      omega
    by_cases hjN : j < N
    · rw [decide_eq_false (fun q => (e.mp q) hjN), decide_eq_true (nI_lt hjN (by omega))]; rfl
    · rw [decide_eq_true (e.mpr hjN), decide_eq_false (nI_nlt (by omega) hj)]; rfl
theorem m_in_c (x : Int32) {N : Nat} (h : N < 2 ^ 30) (h1 : 1 ≤ N) : m_in x (nI 0) (nI (N - 1)) = b_below x N := by
  rw [← m_in_b x h, pk_sub h1]
theorem b_below_f {x : Int32} {N : Nat} (hN : N < 2 ^ 31) (h : b_below x N = false) : ∀ j, j < N → ¬ x = nI j := fun j hj z => by
  rw [z, b_below_n (by omega) hN, decide_eq_true hj] at h
  cases h
section OPA
variable {G : px_G}
set_option maxRecDepth 100000 in
set_option maxHeartbeats 4000000 in
theorem op_cut (a : Int32) : OP G Inv mX11_cut mX12_cut [.int a] := by
  intro ph hI
  have hI' := hI
  obtain ⟨t, mc, fd, sc, wl, rl, m, ⟨h0, h100⟩, ⟨e0, e5, e6, e7, e10⟩, iT, iR, iD, iM, iC, iK, iO, iS, iW, iN⟩ := hI
  have ht := iT.1
  refine px_start kX11_cut (Nat.le_of_ble_eq_true rfl) ?_
  show px_W G _ _ _ _ _ 0 0 0 [some (.ref 0), some (.int a)] [] ph
  by_cases hj : m_in a (nI 0) (nI t) = true
  · obtain ⟨j, -, hj2, rfl⟩ := (m_in_n (by omega) (by omega)).mp hj
    (repeat (first | (refine px_st rfl rfl ?_; simp only [px_wp, px_at, px_set, px_set2, px_clr, px_ldi, px_ldl, px_lda, px_i1, px_i2, px_l1, px_l2, px_il, px_a1, px_r1, px_r2, px_ir, px_vir, px_g, px_v1, px_v2, px_gf, px_pf, px_ps, px_ar, px_nth, px_upd, px_zero, px_dfl, px_put_self, px_put_ne, px_sw, nI_add, pk_mul, true_and, and_true, Nat.reduceAdd, Nat.reduceLT, Nat.reduceEqDiff, List.length_cons, List.length_nil, true_or, or_true, List.set_set, ne_eq, not_false_eq_true, Fin.isValue, Fin.val_zero, Fin.val_one, Fin.val_two, reduceCtorEq, Option.map_some, List.length_set, Nat.zero_lt_succ, Option.toList_some, Option.toList_none, List.cons_append, List.nil_append, px_b_2, IA, LA, BA, ZA, QA, PT, DR, TL, MC, CD, CC, h0, pk_sub hj2]) | (refine ⟨_, rfl, by omega, ?_⟩) | (refine ⟨fun h => absurd h (nI_nlt (by omega) (by omega)), fun _ => ?_⟩) | (refine ⟨fun _ => ?_, fun h => absurd h (nI_nlt (by omega) (by omega))⟩) | (refine ⟨fun h => absurd (nI_lt (by omega) (by omega)) h, fun _ => ?_⟩) | (refine ⟨fun _ => ?_, fun h => absurd (nI_lt (by omega) (by omega)) h⟩) | (refine ⟨fun h => absurd ((nI_eq (by omega) (by omega)).mp h) (by omega), fun _ => ?_⟩) | (refine ⟨fun _ => ?_, fun h => absurd ((nI_eq (by omega) (by omega)).mp h) (by omega)⟩) | (refine ⟨fun h => absurd h (by decide), fun _ => ?_⟩) | (refine ⟨fun _ => ?_, fun h => absurd h (by decide)⟩) | (refine ⟨fun h => absurd rfl h, fun _ => ?_⟩) | (refine ⟨fun _ => ?_, fun h => absurd rfl h⟩)))
    refine px_ireturn rfl (Or.inl rfl) (Nat.zero_le _) (Nat.zero_le _) ⟨_, rfl, ⟨_, (px_put_ne (by decide)).trans h100⟩, (c_N_cut (d := 0) (m := m) ((px_put_ne (by decide)).trans h100) (fun q => ?_) (fun q => ?_)).wid (by omega) (by omega) (by omega)⟩
    · rw [e0, hj] at q; cases q
    · rw [e0, pk_sub hj2]
      refine ⟨rfl, t - j, mc, fd, sc, wl, rl, upd m 0 (nI (t - j)), ⟨(px_put_ne (by decide)).trans (px_put_self.trans (by rw [h0]; rfl)), px_put_self.trans (by rw [px_put_ne (by decide), h100]; rfl)⟩, ⟨rfl, e5, e6, e7, e10⟩, ?_⟩
      have hf : fr (FR [0, 10]) ph ((ph.set 0 (XO (t - j) mc fd sc wl)).set 100 (MD (upd m 0 (nI (t - j))))) := fr_set (fr_set fr_id rfl) rfl
      have iT' : iText (t - j) ph := ⟨by omega, iT.2.elim fun ft h => h.elim fun gt h => ⟨ft, gt, h.1, h.2.1, fun i hi => h.2.2 i (by omega)⟩⟩
      exact ⟨iT'.fr hf (FR_of rfl), iR.fr hf (FR_of rfl), iD.fr hf (FR_of rfl), iM.fr hf (FR_of rfl) (FR_sm rfl), iC.fr hf (FR_of rfl), iK.fr hf (FR_of rfl), iO.fr hf (FR_of rfl), iS.fr hf (FR_of rfl) (FR_dy rfl), iW.fr hf (FR_of rfl), iN.fr hf (FR_of rfl)⟩
  · have hj' : m_in a (nI 0) (nI t) = false := by simpa using hj
    have hB : ∃ v, some (Value.int (-1)) = some (Value.int v) ∧ (∃ fs, ph[100]? = some (.inr (12, fs))) ∧ px_Met G mX12_cut 6 10 30000 [.ref 100, .int a] ph (fun r2 ph'' => r2 = some (.int v) ∧ Inv ph'') := ⟨_, rfl, ⟨_, h100⟩, (c_N_cut (d := 0) (m := m) h100 (fun _ => ⟨rfl, hI'⟩) (fun q => by rw [e0, hj'] at q; cases q)).wid (by omega) (by omega) (by omega)⟩
    (repeat (first | (refine ⟨_, rfl, by omega, ?_⟩) | (refine px_st rfl rfl ?_; simp only [px_wp, px_at, px_set, px_set2, px_clr, px_ldi, px_ldl, px_lda, px_i1, px_i2, px_l1, px_l2, px_il, px_a1, px_r1, px_r2, px_ir, px_vir, px_g, px_v1, px_v2, px_gf, px_pf, px_ps, px_ar, px_nth, px_upd, px_zero, px_dfl, px_put_self, px_put_ne, px_sw, nI_add, pk_mul, true_and, and_true, Nat.reduceAdd, Nat.reduceLT, Nat.reduceEqDiff, List.length_cons, List.length_nil, true_or, or_true, List.set_set, ne_eq, not_false_eq_true, Fin.isValue, Fin.val_zero, Fin.val_one, Fin.val_two, reduceCtorEq, Option.map_some, List.length_set, Nat.zero_lt_succ, Option.toList_some, Option.toList_none, List.cons_append, List.nil_append, px_b_2, IA, LA, BA, ZA, QA, PT, DR, TL, MC, CD, CC, h0])))
    refine ⟨fun h => ?_, fun h => ?_⟩
    · (repeat (first | (refine ⟨_, rfl, by omega, ?_⟩) | (refine px_st rfl rfl ?_; simp only [px_wp, px_at, px_set, px_set2, px_clr, px_ldi, px_ldl, px_lda, px_i1, px_i2, px_l1, px_l2, px_il, px_a1, px_r1, px_r2, px_ir, px_vir, px_g, px_v1, px_v2, px_gf, px_pf, px_ps, px_ar, px_nth, px_upd, px_zero, px_dfl, px_put_self, px_put_ne, px_sw, nI_add, pk_mul, true_and, and_true, Nat.reduceAdd, Nat.reduceLT, Nat.reduceEqDiff, List.length_cons, List.length_nil, true_or, or_true, List.set_set, ne_eq, not_false_eq_true, Fin.isValue, Fin.val_zero, Fin.val_one, Fin.val_two, reduceCtorEq, Option.map_some, List.length_set, Nat.zero_lt_succ, Option.toList_some, Option.toList_none, List.cons_append, List.nil_append, px_b_2, IA, LA, BA, ZA, QA, PT, DR, TL, MC, CD, CC])))
      exact px_ireturn rfl (Or.inl rfl) (Nat.zero_le _) (Nat.zero_le _) hB
    · (repeat (first | (refine ⟨_, rfl, by omega, ?_⟩) | (refine px_st rfl rfl ?_; simp only [px_wp, px_at, px_set, px_set2, px_clr, px_ldi, px_ldl, px_lda, px_i1, px_i2, px_l1, px_l2, px_il, px_a1, px_r1, px_r2, px_ir, px_vir, px_g, px_v1, px_v2, px_gf, px_pf, px_ps, px_ar, px_nth, px_upd, px_zero, px_dfl, px_put_self, px_put_ne, px_sw, nI_add, pk_mul, true_and, and_true, Nat.reduceAdd, Nat.reduceLT, Nat.reduceEqDiff, List.length_cons, List.length_nil, true_or, or_true, List.set_set, ne_eq, not_false_eq_true, Fin.isValue, Fin.val_zero, Fin.val_one, Fin.val_two, reduceCtorEq, Option.map_some, List.length_set, Nat.zero_lt_succ, Option.toList_some, Option.toList_none, List.cons_append, List.nil_append, px_b_2, IA, LA, BA, ZA, QA, PT, DR, TL, MC, CD, CC, h0])))
      refine ⟨fun h2 => ?_, fun h2 => ?_⟩
      · exfalso
        unfold m_in at hj'
        simp [h, h2] at hj'
      · (repeat (first | (refine ⟨_, rfl, by omega, ?_⟩) | (refine px_st rfl rfl ?_; simp only [px_wp, px_at, px_set, px_set2, px_clr, px_ldi, px_ldl, px_lda, px_i1, px_i2, px_l1, px_l2, px_il, px_a1, px_r1, px_r2, px_ir, px_vir, px_g, px_v1, px_v2, px_gf, px_pf, px_ps, px_ar, px_nth, px_upd, px_zero, px_dfl, px_put_self, px_put_ne, px_sw, nI_add, pk_mul, true_and, and_true, Nat.reduceAdd, Nat.reduceLT, Nat.reduceEqDiff, List.length_cons, List.length_nil, true_or, or_true, List.set_set, ne_eq, not_false_eq_true, Fin.isValue, Fin.val_zero, Fin.val_one, Fin.val_two, reduceCtorEq, Option.map_some, List.length_set, Nat.zero_lt_succ, Option.toList_some, Option.toList_none, List.cons_append, List.nil_append, px_b_2, IA, LA, BA, ZA, QA, PT, DR, TL, MC, CD, CC])))
        exact px_ireturn rfl (Or.inl rfl) (Nat.zero_le _) (Nat.zero_le _) hB
set_option maxRecDepth 100000 in
set_option maxHeartbeats 4000000 in
theorem op_shapes : OP G Inv mX11_shapes mX12_shapes [] := by
  intro ph hI
  have hI' := hI
  obtain ⟨t, mc, fd, sc, wl, rl, m, ⟨h0, h100⟩, ⟨e0, e5, e6, e7, e10⟩, -⟩ := hI
  refine px_start kX11_shapes (Nat.le_of_ble_eq_true rfl) ?_
  show px_W G _ _ _ _ _ 0 0 0 [some (.ref 0)] [] ph
  (repeat (first | (refine ⟨_, rfl, by omega, ?_⟩) | (refine px_st rfl rfl ?_; simp only [px_wp, px_at, px_set, px_set2, px_clr, px_ldi, px_ldl, px_lda, px_i1, px_i2, px_l1, px_l2, px_il, px_a1, px_r1, px_r2, px_ir, px_vir, px_g, px_v1, px_v2, px_gf, px_pf, px_ps, px_ar, px_nth, px_upd, px_zero, px_dfl, px_put_self, px_put_ne, px_sw, nI_add, pk_mul, true_and, and_true, Nat.reduceAdd, Nat.reduceLT, Nat.reduceEqDiff, List.length_cons, List.length_nil, true_or, or_true, List.set_set, ne_eq, not_false_eq_true, Fin.isValue, Fin.val_zero, Fin.val_one, Fin.val_two, reduceCtorEq, Option.map_some, List.length_set, Nat.zero_lt_succ, Option.toList_some, Option.toList_none, List.cons_append, List.nil_append, px_b_2, IA, LA, BA, ZA, QA, PT, DR, TL, MC, CD, CC, h0])))
  exact px_ireturn rfl (Or.inl rfl) (Nat.zero_le _) (Nat.zero_le _) ⟨_, rfl, ⟨_, h100⟩, (c_N_shapes (d := 0) h100 ⟨by rw [e7], hI'⟩).wid (by omega) (by omega) (by omega)⟩
/-- all groups but some stay -/
theorem inv_mk {ph : List px_E} {t mc : Nat} {fd : Value} {sc wl : Nat} {rl : Option Nat} {m : Nat → Int32} (h0 : ph[0]? = some (XO t mc fd sc wl)) (h100 : ph[100]? = some (MD m)) (hm : m 0 = nI t ∧ m 5 = nI mc ∧ m 6 = mnum rl ∧ m 7 = nI sc ∧ m 10 = wnum wl) (h : iText t ph ∧ iRead ph ∧ iDraft ph ∧ iMach mc ph ∧ iComp rl ph ∧ iCls ph ∧ iCode ph ∧ iShp fd wl ph ∧ iDrawn ph ∧ iMod ph) : Inv ph := ⟨t, mc, fd, sc, wl, rl, m, ⟨h0, h100⟩, hm, h⟩
end OPA
