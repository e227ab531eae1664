/-- the least machine of a draft: the class's and the Model's -/
theorem mk_both {nx : Nat → Nat → Option Nat} {c : Nat} (en : Nat → Bool) (hB : NXB nx c) (hc1 : 1 ≤ c) (hc : c ≤ 100) : ∃ (N kn : Nat) (FI hd : Nat → Nat) (nb : Nat → Option Nat), mlL nx c 102 0 (e01 en) = some (N, FI) ∧ N ≤ c ∧ (∀ s, s < c → FI s < N) ∧ mmS nx FI 102 0 1 (va_up (fun _ => none) (FI 0) (some 0)) (fun _ => 0) = some (kn, nb, hd) ∧ BI c FI kn nb hd ∧ 1 ≤ kn ∧ ((kn ≤ 24 ∧ lsL nx c 25 0 (e01 en) = some (N, FI) ∧ ∃ ln le, nmS nx FI en N 25 0 1 (va_up (fun _ => none) (FI 0) (some 0)) (fun _ => 0) (fun _ => none) (fun _ => false) = (kn, ln, le) ∧ LNS nx FI en kn nb hd ln le) ∨ (24 < N ∧ lsL nx c 25 0 (e01 en) = none ∧ (RCH nx c → 24 < kn))) := by
  obtain ⟨N, FI, i1, i2, i3, i4, i5, i6, i7, i8⟩ := ml_ls hB hc1 102 0 (e01 en) (by omega) (Or.inl rfl)
  obtain ⟨kn, nb, hd, j1, j2, j3, j4⟩ := mmS_inv (g := FI) hB 102 0 1 _ _ (by omega) (by omega) (BI_0 hc1) (fun v hv => absurd hv (by omega))
  have h8 := i8 25 (by omega)
  refine ⟨N, kn, FI, hd, nb, i1, i2, i4, j1, j2, j3.1, ?_⟩
  rcases Nat.lt_or_ge 24 N with h | h
  · refine Or.inr ⟨h, h8.2 h, fun hR => ?_⟩
    have := num_big hR i6 i5 j2 ⟨0, j3.2.2 _ _ va_up_s⟩ j4
    omega
  · refine Or.inl ⟨by have := BI_gr j2 i4; omega, h8.1 h, ?_⟩
    obtain ⟨kn', nb', hd', ln', le', k1, k2, k3⟩ := nmS_eq (en := en) (gr := N) hB h i4 102 25 0 1 _ _ (fun _ => none) (fun _ => false) (by omega) (by omega) (by omega) (BI_0 hc1) (fun v hv => absurd hv (by omega)) (fun v hv => absurd hv (by omega))
    rw [j1] at k1
    cases k1
    exact ⟨ln', le', k2, k3⟩
/-- a machine more -/
theorem iMach_add {ph ph' : List px_E} {P : Nat → px_E → Prop} {mc a0 s0 : Nat} {fq : Nat → Option Nat} {fs fl fe fl' fe' : Nat → Int32} {nx0 : Nat → Nat → Option Nat} {en0 : Nat → Bool} (hmc : mc < 12) (hM : ∀ i, i < mc → ∃ (a s : Nat) (nx : Nat → Nat → Option Nat) (en : Nat → Bool), fq i = some a ∧ isM ph a s nx en ∧ isN i s nx en fs fl fe) (hf : fr P ph ph') (hP : ∀ k e, 153 ≤ k → small e → P k e) (h44 : ph'[44]? = some (QA 5 12 (va_up fq mc (some a0)))) (h115 : ph'[115]? = some (IA 12 (upd fs mc (nI s0)))) (h116 : ph'[116]? = some (IA 6912 fl')) (h117 : ph'[117]? = some (ZA 288 fe')) (hn : isM ph' a0 s0 nx0 en0) (hl1 : ∀ i, i < 576 * mc → fl' i = fl i) (hl2 : ∀ u, u < s0 → ∀ e, e < 24 → fl' (576 * mc + 24 * u + e) = oI (nx0 u e)) (he1 : ∀ i, i < 24 * mc → fe' i = fe i) (he2 : ∀ u, u < s0 → fe' (24 * mc + u) = px_b (en0 u)) : iMach (mc + 1) ph' := by
  refine ⟨by omega, _, _, fl', fe', h44, h115, h116, h117, fun i hi => ?_⟩
  by_cases him : i = mc
  · subst him
    exact ⟨a0, s0, nx0, en0, va_up_s, hn, pk_us, he2, hl2⟩
  · obtain ⟨a, s, nx, en, k1, k2, k3⟩ := hM i (by omega)
    have hs := k2.1.2.1
    refine ⟨a, s, nx, en, ?_, k2.fr hf hP, ?_, fun u hu => ?_, fun u hu e he => ?_⟩
    · rw [va_up_n him]; exact k1
    · unfold upd; rw [if_neg him]; exact k3.1
    · rw [he1 _ (by omega)]; exact k3.2.1 u hu
    · rw [hl1 _ (by omega)]; exact k3.2.2 u hu e he
/-- steps of a member over two numbers -/
def rn (K F V : Nat → Nat) : Nat → Nat → Nat → Nat → Option (Nat × Nat)
  | 0, _, a, b => some (a, b)
  | m + 1, j, a, b => if K j = 2 then (if F j = 0 then rn K F V m (j + 1) (V j) b else rn K F V m (j + 1) a (V j)) else if ((if F j = 0 then a else b) = V j ↔ K j = 1) then rn K F V m (j + 1) a b else none
def KFV (kd fd vl : Nat → Int32) (base n : Nat) (K F V : Nat → Nat) : Prop := ∀ j, j < n → kd (base + j) = nI (K j) ∧ K j < 3 ∧ fd (base + j) = nI (F j) ∧ F j < 2 ∧ vl (base + j) = nI (V j) ∧ V j < 4
theorem rn_lt {K F V : Nat → Nat} {n : Nat} (hV : ∀ j, j < n → V j < 4) : ∀ (m j a b : Nat) {a' b' : Nat}, j + m ≤ n → a < 4 → b < 4 → rn K F V m j a b = some (a', b') → a' < 4 ∧ b' < 4
  | 0, j, a, b, a', b', _, ha, hb, h => by cases h; exact ⟨ha, hb⟩
  | m + 1, j, a, b, a', b', hj, ha, hb, h => by
    unfold rn at h
    by_cases h1 : K j = 2
    · rw [if_pos h1] at h
      by_cases h2 : F j = 0
      · rw [if_pos h2] at h
        exact rn_lt hV m (j + 1) _ _ (by omega) (hV j (by omega)) hb h
      · rw [if_neg h2] at h
        exact rn_lt hV m (j + 1) _ _ (by omega) ha (hV j (by omega)) h
    · rw [if_neg h1] at h
      generalize (if F j = 0 then a else b) = y at h
      by_cases h2 : (y = V j ↔ K j = 1)
      · rw [if_pos h2] at h
        exact rn_lt hV m (j + 1) _ _ (by omega) ha hb h
      · rw [if_neg h2] at h; cases h
theorem rs_rn {kd fd vl : Nat → Int32} {base n : Nat} {K F V : Nat → Nat} (h : KFV kd fd vl base n K F V) : ∀ (m i : Nat) (w : Nat → Int32) (a b : Nat), i + m = n → w 0 = nI a → w 1 = nI b → a < 4 → b < 4 → (rn K F V m i a b = none → (rs kd fd vl base m i w).1 = false) ∧ ∀ a' b', rn K F V m i a b = some (a', b') → (rs kd fd vl base m i w).1 = true ∧ (rs kd fd vl base m i w).2 0 = nI a' ∧ (rs kd fd vl base m i w).2 1 = nI b'
  | 0, i, w, a, b, _, h0, h1, _, _ => ⟨fun q => (by cases q), fun a' b' q => by cases q; exact ⟨rfl, h0, h1⟩⟩
  | m + 1, i, w, a, b, hi, h0, h1, ha, hb => by
    obtain ⟨k1, k2, k3, k4, k5, k6⟩ := h i (by omega)
    unfold rn rs
    rw [k1, k3, nI_clamp (by omega), k5]
    by_cases hK : K i = 2
    · rw [if_pos hK, if_pos (show nI (K i) = nI 2 by rw [hK])]
      rcases Nat.lt_or_ge (F i) 1 with hF | hF
      · have hF0 : F i = 0 := by omega
        rw [if_pos hF0, hF0]
        exact rs_rn h m (i + 1) (upd w 0 (nI (V i))) (V i) b (by omega) pk_us (by unfold upd; rw [if_neg (by omega)]; exact h1) k6 hb
      · have hF0 : F i = 1 := by omega
        rw [if_neg (by omega), hF0]
        exact rs_rn h m (i + 1) (upd w 1 (nI (V i))) a (V i) (by omega) (by unfold upd; rw [if_neg (by omega)]; exact h0) pk_us ha k6
    · rw [if_neg hK, if_neg (show ¬ nI (K i) = nI 2 from fun q => hK ((nI_eq (by omega) (by omega)).mp q))]
      have hw : w (F i) = nI (if F i = 0 then a else b) := by
        rcases Nat.lt_or_ge (F i) 1 with hF | hF
        · have hF0 : F i = 0 := by omega
          rw [if_pos hF0, hF0]; exact h0
        · have hF0 : F i = 1 := by omega
          rw [if_neg (by omega), hF0]; exact h1
      have hab : (if F i = 0 then a else b) < 4 := by split <;> assumption
      have e1 : (w (F i) = nI (V i) ↔ nI (K i) = nI 0) ↔ ¬ ((if F i = 0 then a else b) = V i ↔ K i = 1) := by
        rw [hw, nI_eq (by omega) (by omega), nI_eq (by omega) (by omega)]
        generalize (if F i = 0 then a else b) = y
        constructor
        · intro q z
          by_cases hy : y = V i
          · have := q.mp hy; have := z.mp hy; omega
          · have h2 : ¬ K i = 0 := fun u => hy (q.mpr u)
            have h3 : ¬ K i = 1 := fun u => hy (z.mpr u)
            omega
        · intro q
          by_cases hy : y = V i
          · refine ⟨fun _ => ?_, fun _ => hy⟩
            have : ¬ K i = 1 := fun u => q ⟨fun _ => u, fun _ => hy⟩
            omega
          · refine ⟨fun u => absurd u hy, fun u => ?_⟩
            exact absurd ⟨fun z => absurd z hy, fun z => by omega⟩ q
      by_cases hc : ((if F i = 0 then a else b) = V i ↔ K i = 1)
      · rw [if_pos hc, if_neg (fun q => (e1.mp q) hc)]
        exact rs_rn h m (i + 1) w a b (by omega) h0 h1 ha hb
      · rw [if_neg hc, if_pos (e1.mpr hc)]
        exact ⟨fun _ => rfl, fun a' b' q => by cases q⟩
/-- the draft's cells and the fields of a class -/
def kH (ph : List px_E) (c : Nat) (f ea : Nat → Int32) (w : Nat) (nw : Nat → Int32) : List px_E := (((ph.set w (IA 2 nw)).set 35 (DR c)).set 36 (IA 2400 f)).set 37 (IA 100 ea)
section KH
variable {ph : List px_E} {c c' w : Nat} {f f' ea ea' nw nw' : Nat → Int32}
theorem kH_35 : (kH ph c f ea w nw).set 35 (DR c') = kH ph c' f ea w nw := by
  unfold kH
  rw [List.set_comm _ _ (show 37 ≠ 35 by decide), List.set_comm _ _ (show 36 ≠ 35 by decide), List.set_set]
theorem kH_36 : (kH ph c f ea w nw).set 36 (IA 2400 f') = kH ph c f' ea w nw := by
  unfold kH
  rw [List.set_comm _ _ (show 37 ≠ 36 by decide), List.set_set]
theorem kH_37 : (kH ph c f ea w nw).set 37 (IA 100 ea') = kH ph c f ea' w nw := by
  unfold kH
  rw [List.set_set]
theorem kH_w (hw : 38 ≤ w) : (kH ph c f ea w nw).set w (IA 2 nw') = kH ph c f ea w nw' := by
  unfold kH
  rw [List.set_comm _ _ (show 37 ≠ w by omega), List.set_comm _ _ (show 36 ≠ w by omega), List.set_comm _ _ (show 35 ≠ w by omega), List.set_set]
theorem kH_ne {q : Nat} (h1 : ¬ q = 35) (h2 : ¬ q = 36) (h3 : ¬ q = 37) (h4 : ¬ q = w) : (kH ph c f ea w nw)[q]? = ph[q]? := by
  unfold kH
  rw [px_put_ne (Ne.symm h3), px_put_ne (Ne.symm h2), px_put_ne (Ne.symm h1), px_put_ne (Ne.symm h4)]
theorem kH_g35 (hw : 38 ≤ w) {x : px_E} (h : ph[35]? = some x) : (kH ph c f ea w nw)[35]? = some (DR c) := by
  unfold kH
  rw [px_put_ne (by omega), px_put_ne (by omega), px_put_self, px_put_ne (by omega), h]; rfl
theorem kH_g36 (hw : 38 ≤ w) {x : px_E} (h : ph[36]? = some x) : (kH ph c f ea w nw)[36]? = some (IA 2400 f) := by
  unfold kH
  rw [px_put_ne (by omega), px_put_self, px_put_ne (by omega), px_put_ne (by omega), h]; rfl
theorem kH_g37 (hw : 38 ≤ w) {x : px_E} (h : ph[37]? = some x) : (kH ph c f ea w nw)[37]? = some (IA 100 ea) := by
  unfold kH
  rw [px_put_self, px_put_ne (by omega), px_put_ne (by omega), px_put_ne (by omega), h]; rfl
theorem kH_gw (hw : 38 ≤ w) {x : px_E} (h : ph[w]? = some x) : (kH ph c f ea w nw)[w]? = some (IA 2 nw) := by
  unfold kH
  rw [px_put_ne (by omega), px_put_ne (by omega), px_put_ne (by omega), px_put_self, h]; rfl
theorem kH_id (hw : 38 ≤ w) (h35 : ph[35]? = some (DR c)) (h36 : ph[36]? = some (IA 2400 f)) (h37 : ph[37]? = some (IA 100 ea)) (h : ph[w]? = some (IA 2 nw)) : kH ph c f ea w nw = ph := by
  unfold kH
  rw [px_put_id h, px_put_id h35, px_put_id h36, px_put_id h37]
theorem kH_len : (kH ph c f ea w nw).length = ph.length := by unfold kH; simp
end KH
/-- what a class leads to, from a pair of values on -/
def nxI (K F V : Nat → Nat → Nat) (cn : Nat → Nat) (node e : Nat) : Option Nat := if e < 12 then (rn (K e) (F e) (V e) (cn e) 0 (node / 4) (node % 4)).map (fun p => p.1 * 4 + p.2) else none
theorem nxI_B {K F V : Nat → Nat → Nat} {cn : Nat → Nat} (hV : ∀ e, e < 12 → ∀ j, j < cn e → V e j < 4) : NXB (nxI K F V cn) 16 := by
  intro i hi e he j hj
  unfold nxI at hj
  by_cases h12 : e < 12
  · rw [if_pos h12] at hj
    cases hr : rn (K e) (F e) (V e) (cn e) 0 (i / 4) (i % 4) with
    | none => rw [hr] at hj; cases hj
    | some p =>
      obtain ⟨a, b⟩ := p
      rw [hr] at hj
      have hj : a * 4 + b = j := by simpa using hj
      have := rn_lt (hV e h12) (cn e) 0 _ _ (by omega) (by omega) (by omega) hr
      omega
  · rw [if_neg h12] at hj; cases hj
section INF
variable {G : px_G} {ph : List px_E} {d : Nat} {Q : Option Value → List px_E → Prop} {m : Nat → Int32}
set_option maxRecDepth 100000 in
set_option maxHeartbeats 4000000 in
theorem c_K_fill {o a b c e w c0 : Nat} {fc fk ff fv nw0 f0 ea0 : Nat → Int32} {K F V : Nat → Nat → Nat} {cn : Nat → Nat} (hcn : ∀ x, x < 12 → fc x = nI (cn x) ∧ cn x ≤ 6) (hk : ∀ x, x < 12 → KFV fk ff fv (x * 6) (cn x) (K x) (F x) (V x)) (hw : 38 ≤ w) (ho8 : 38 ≤ o) (ha8 : 38 ≤ a) (hb8 : 38 ≤ b) (hc8 : 38 ≤ c) (he8 : 38 ≤ e) (n1 : ¬ w = o) (n2 : ¬ w = a) (n3 : ¬ w = b) (n4 : ¬ w = c) (n5 : ¬ w = e) (ho : ph[o]? = some (CC a b c e w)) (ha : ph[a]? = some (IA 12 fc)) (hb : ph[b]? = some (IA 72 fk)) (hc : ph[c]? = some (IA 72 ff)) (he : ph[e]? = some (IA 72 fv)) (hnw : ph[w]? = some (IA 2 nw0)) (h35 : ph[35]? = some (DR c0)) (h36 : ph[36]? = some (IA 2400 f0)) (h37 : ph[37]? = some (IA 100 ea0)) (hQ : ∀ f ea nw, RNX 16 f (nxI K F V cn) → (∀ i, i < 16 → ea i = px_b true) → Q none (kH ph 16 f ea w nw)) : px_Met G mX0_fill (d + 3) 0 0 [.ref o, .ref 35] ph Q := by
  have hB := nxI_B (K := K) (F := F) (V := V) (cn := cn) (fun x hx j hj => (hk x hx j hj).2.2.2.2.2)
  refine px_start kX0_fill (Nat.le_of_ble_eq_true rfl) ?_
  show px_W G _ _ _ _ _ 0 0 0 [some (.ref o), some (.ref 35), none, none] [] ph
  have g35 : ∀ {cc f ea nw}, (kH ph cc f ea w nw)[35]? = some (DR cc) := fun {_ _ _ _} => kH_g35 hw h35
  have g36 : ∀ {cc f ea nw}, (kH ph cc f ea w nw)[36]? = some (IA 2400 f) := fun {_ _ _ _} => kH_g36 hw h36
  have g37 : ∀ {cc f ea nw}, (kH ph cc f ea w nw)[37]? = some (IA 100 ea) := fun {_ _ _ _} => kH_g37 hw h37
  have gw : ∀ {cc f ea nw}, (kH ph cc f ea w nw)[w]? = some (IA 2 nw) := fun {_ _ _ _} => kH_gw hw hnw
  have go : ∀ {cc f ea nw}, (kH ph cc f ea w nw)[o]? = some (CC a b c e w) := fun {_ _ _ _} => (kH_ne (by omega) (by omega) (by omega) (by omega)).trans ho
  have gga : ∀ {cc f ea nw}, (kH ph cc f ea w nw)[a]? = some (IA 12 fc) := fun {_ _ _ _} => (kH_ne (by omega) (by omega) (by omega) (by omega)).trans ha
  have ggb : ∀ {cc f ea nw}, (kH ph cc f ea w nw)[b]? = some (IA 72 fk) := fun {_ _ _ _} => (kH_ne (by omega) (by omega) (by omega) (by omega)).trans hb
  have ggc : ∀ {cc f ea nw}, (kH ph cc f ea w nw)[c]? = some (IA 72 ff) := fun {_ _ _ _} => (kH_ne (by omega) (by omega) (by omega) (by omega)).trans hc
  have gge : ∀ {cc f ea nw}, (kH ph cc f ea w nw)[e]? = some (IA 72 fv) := fun {_ _ _ _} => (kH_ne (by omega) (by omega) (by omega) (by omega)).trans he
  -- the nodes' rows
  have loop2 : ∀ (r nd : Nat) (f ea nw : Nat → Int32) (x3 : Option Value), nd + r = 16 → (∀ i, i < 16 → ea i = px_b true) → (∀ i, i < 16 → ∀ x, x < 24 → f (i * 24 + x) = if i < nd then oI (nxI K F V cn i x) else -2) → px_W G mX0_fill (d + 3) 0 0 Q 0 0 26 [some (.ref o), some (.ref 35), some (.int (nI nd)), x3] [] (kH ph 16 f ea w nw) := by
    intro r
    induction r with
    | zero =>
      intro nd f ea nw x3 hnd hea hf
      have hn16 : nd = 16 := by omega
      subst hn16
      (repeat (first | (refine px_st rfl rfl ?_; simp only [px_wp, px_at, px_set, px_set2, px_clr, px_ldi, px_ldl, px_lda, px_i1, px_i2, px_l1, px_l2, px_il, px_a1, px_r1, px_r2, px_ir, px_vir, px_g, px_v1, px_v2, px_gf, px_pf, px_ps, px_ar, px_nth, px_upd, px_zero, px_dfl, px_put_self, px_put_ne, px_sw, nI_add, pk_mul, true_and, and_true, Nat.reduceAdd, Nat.reduceLT, Nat.reduceEqDiff, List.length_cons, List.length_nil, true_or, or_true, List.set_set, ne_eq, not_false_eq_true, Fin.isValue, Fin.val_zero, Fin.val_one, Fin.val_two, reduceCtorEq, Option.map_some, List.length_set, Nat.zero_lt_succ, Option.toList_some, Option.toList_none, List.cons_append, List.nil_append, px_b_2, IA, LA, BA, ZA, QA, PT, DR, TL, MC, CD, CC, false_and, or_false, false_or, nar_b, nar_0, nar_1, nar_y]) | (refine ⟨_, rfl, by omega, ?_⟩) | (refine ⟨fun h => absurd h (nI_nlt (by omega) (by omega)), fun _ => ?_⟩) | (refine ⟨fun _ => ?_, fun h => absurd h (nI_nlt (by omega) (by omega))⟩) | (refine ⟨fun h => absurd (nI_lt (by omega) (by omega)) h, fun _ => ?_⟩) | (refine ⟨fun _ => ?_, fun h => absurd (nI_lt (by omega) (by omega)) h⟩) | (refine ⟨fun h => absurd ((nI_eq (by omega) (by omega)).mp h) (by omega), fun _ => ?_⟩) | (refine ⟨fun _ => ?_, fun h => absurd ((nI_eq (by omega) (by omega)).mp h) (by omega)⟩) | (refine ⟨fun h => absurd h (by decide), fun _ => ?_⟩) | (refine ⟨fun _ => ?_, fun h => absurd h (by decide)⟩) | (refine ⟨fun h => absurd rfl h, fun _ => ?_⟩) | (refine ⟨fun _ => ?_, fun h => absurd rfl h⟩)))
      refine px_return rfl rfl (Nat.le_refl _) (Nat.le_refl _) (hQ f ea nw (fun i hi x hx => ⟨?_, fun j hj => hB i hi x hx j hj⟩) hea)
      rw [hf i hi x hx, if_pos hi]
    | succ r ih =>
      intro nd f ea nw x3 hnd hea hf
      have loop3 : ∀ (q x : Nat) (f nw : Nat → Int32), x + q = 12 → (∀ i, i < 16 → ∀ y, y < 24 → f (i * 24 + y) = if i < nd ∨ (i = nd ∧ y < x) then oI (nxI K F V cn i y) else -2) → px_W G mX0_fill (d + 3) 0 0 Q 0 0 34 [some (.ref o), some (.ref 35), some (.int (nI nd)), some (.int (nI x))] [] (kH ph 16 f ea w nw) := by
        intro q
        induction q with
        | zero =>
          intro x f nw hx hf
          have hx12 : x = 12 := by omega
          subst hx12
          (repeat (first | (exact ih (nd + 1) f ea nw _ (by omega) hea (fun i hi y hy => by
            rw [hf i hi y hy]
            by_cases h1 : i < nd
            · rw [if_pos (Or.inl h1), if_pos (by omega)]
            · by_cases h2 : i = nd
              · subst h2
                rw [if_pos (show i < i + 1 by omega)]
                by_cases h3 : y < 12
                · rw [if_pos (Or.inr ⟨rfl, h3⟩)]
                · rw [if_neg (by omega)]
                  unfold nxI
                  rw [if_neg h3]; rfl
              · rw [if_neg (by omega), if_neg (by omega)])) | (refine px_st rfl rfl ?_; simp only [px_wp, px_at, px_set, px_set2, px_clr, px_ldi, px_ldl, px_lda, px_i1, px_i2, px_l1, px_l2, px_il, px_a1, px_r1, px_r2, px_ir, px_vir, px_g, px_v1, px_v2, px_gf, px_pf, px_ps, px_ar, px_nth, px_upd, px_zero, px_dfl, px_put_self, px_put_ne, px_sw, nI_add, pk_mul, true_and, and_true, Nat.reduceAdd, Nat.reduceLT, Nat.reduceEqDiff, List.length_cons, List.length_nil, true_or, or_true, List.set_set, ne_eq, not_false_eq_true, Fin.isValue, Fin.val_zero, Fin.val_one, Fin.val_two, reduceCtorEq, Option.map_some, List.length_set, Nat.zero_lt_succ, Option.toList_some, Option.toList_none, List.cons_append, List.nil_append, px_b_2, IA, LA, BA, ZA, QA, PT, DR, TL, MC, CD, CC, false_and, or_false, false_or, nar_b, nar_0, nar_1, nar_y]) | (refine ⟨_, rfl, by omega, ?_⟩) | (refine ⟨fun h => absurd h (nI_nlt (by omega) (by omega)), fun _ => ?_⟩) | (refine ⟨fun _ => ?_, fun h => absurd h (nI_nlt (by omega) (by omega))⟩) | (refine ⟨fun h => absurd (nI_lt (by omega) (by omega)) h, fun _ => ?_⟩) | (refine ⟨fun _ => ?_, fun h => absurd (nI_lt (by omega) (by omega)) h⟩) | (refine ⟨fun h => absurd ((nI_eq (by omega) (by omega)).mp h) (by omega), fun _ => ?_⟩) | (refine ⟨fun _ => ?_, fun h => absurd ((nI_eq (by omega) (by omega)).mp h) (by omega)⟩) | (refine ⟨fun h => absurd h (by decide), fun _ => ?_⟩) | (refine ⟨fun _ => ?_, fun h => absurd h (by decide)⟩) | (refine ⟨fun h => absurd rfl h, fun _ => ?_⟩) | (refine ⟨fun _ => ?_, fun h => absurd rfl h⟩)))
        | succ q ihq =>
          intro x f nw hx hf
          have hx12 : x < 12 := by omega
          obtain ⟨hc1, hc2⟩ := hcn x hx12
          have hd4 : nI nd / nI 4 = nI (nd / 4) := pk_div (by omega) (by omega) (by omega)
          have hr4 : nI nd - nI nd / nI 4 * nI 4 = nI (nd % 4) := pk_rem (by omega) (by omega) (by omega)
          have hr4' : nI nd - nI (nd / 4) * nI 4 = nI (nd % 4) := by rw [← hd4]; exact hr4
          have hr4'' : nI nd - nI (nd / 4 * 4) = nI (nd % 4) := by rw [← pk_mul]; exact hr4'
          (repeat (first | (refine ⟨by decide, ?_⟩) | (refine px_st rfl rfl ?_; simp only [px_wp, px_at, px_set, px_set2, px_clr, px_ldi, px_ldl, px_lda, px_i1, px_i2, px_l1, px_l2, px_il, px_a1, px_r1, px_r2, px_ir, px_vir, px_g, px_v1, px_v2, px_gf, px_pf, px_ps, px_ar, px_nth, px_upd, px_zero, px_dfl, px_put_self, px_put_ne, px_sw, nI_add, pk_mul, true_and, and_true, Nat.reduceAdd, Nat.reduceLT, Nat.reduceEqDiff, List.length_cons, List.length_nil, true_or, or_true, List.set_set, ne_eq, not_false_eq_true, Fin.isValue, Fin.val_zero, Fin.val_one, Fin.val_two, reduceCtorEq, Option.map_some, List.length_set, Nat.zero_lt_succ, Option.toList_some, Option.toList_none, List.cons_append, List.nil_append, px_b_2, IA, LA, BA, ZA, QA, PT, DR, TL, MC, CD, CC, false_and, or_false, false_or, nar_b, nar_0, nar_1, nar_y, go, gw, kH_w hw, hd4, hr4, hr4', hr4'']) | (refine ⟨_, rfl, by omega, ?_⟩) | (refine ⟨fun h => absurd h (nI_nlt (by omega) (by omega)), fun _ => ?_⟩) | (refine ⟨fun _ => ?_, fun h => absurd h (nI_nlt (by omega) (by omega))⟩) | (refine ⟨fun h => absurd (nI_lt (by omega) (by omega)) h, fun _ => ?_⟩) | (refine ⟨fun _ => ?_, fun h => absurd (nI_lt (by omega) (by omega)) h⟩) | (refine ⟨fun h => absurd ((nI_eq (by omega) (by omega)).mp h) (by omega), fun _ => ?_⟩) | (refine ⟨fun _ => ?_, fun h => absurd ((nI_eq (by omega) (by omega)).mp h) (by omega)⟩) | (refine ⟨fun h => absurd h (by decide), fun _ => ?_⟩) | (refine ⟨fun _ => ?_, fun h => absurd h (by decide)⟩) | (refine ⟨fun h => absurd rfl h, fun _ => ?_⟩) | (refine ⟨fun _ => ?_, fun h => absurd rfl h⟩)))
          have hrs := rs_rn (hk x hx12) (cn x) 0 (upd (upd nw 0 (nI (nd / 4))) 1 (nI (nd % 4))) (nd / 4) (nd % 4) (by omega) (by unfold upd; rw [if_neg (by omega), if_pos rfl]) pk_us (by omega) (by omega)
          refine px_cV rfl rfl kX0_runs rfl (c_K_runs hx12 hc2 hc1 (fun i hi => ⟨_, (hk x hx12 i hi).2.2.2.1, (hk x hx12 i hi).2.2.1⟩) go gga ggb ggc gge gw n1 n2 n3 n4 n5 ?_) (Nat.le_refl _) go rfl rfl rfl (Nat.le_of_ble_eq_true rfl) (Nat.zero_le _) (Nat.zero_le _)
          rw [kH_w hw]
          generalize rs fk ff fv (x * 6) (cn x) 0 (upd (upd nw 0 (nI (nd / 4))) 1 (nI (nd % 4))) = T at hrs ⊢
          have hnx : nxI K F V cn nd x = (rn (K x) (F x) (V x) (cn x) 0 (nd / 4) (nd % 4)).map (fun p => p.1 * 4 + p.2) := by unfold nxI; rw [if_pos hx12]
          cases hrn : rn (K x) (F x) (V x) (cn x) 0 (nd / 4) (nd % 4) with
          | none =>
            rw [hrs.1 hrn]
            rw [hrn] at hnx
            (repeat (first | (exact ihq (x + 1) f _ (by omega) (fun i hi y hy => by
              rw [hf i hi y hy]
              by_cases h1 : i = nd ∧ y = x
              · obtain ⟨rfl, rfl⟩ := h1
                rw [if_neg (by omega), if_pos (by omega), hnx]; rfl
              · by_cases h2 : i < nd ∨ (i = nd ∧ y < x)
                · rw [if_pos h2, if_pos (by omega)]
                · rw [if_neg h2, if_neg (by omega)])) | (refine px_st rfl rfl ?_; simp only [px_wp, px_at, px_set, px_set2, px_clr, px_ldi, px_ldl, px_lda, px_i1, px_i2, px_l1, px_l2, px_il, px_a1, px_r1, px_r2, px_ir, px_vir, px_g, px_v1, px_v2, px_gf, px_pf, px_ps, px_ar, px_nth, px_upd, px_zero, px_dfl, px_put_self, px_put_ne, px_sw, nI_add, pk_mul, true_and, and_true, Nat.reduceAdd, Nat.reduceLT, Nat.reduceEqDiff, List.length_cons, List.length_nil, true_or, or_true, List.set_set, ne_eq, not_false_eq_true, Fin.isValue, Fin.val_zero, Fin.val_one, Fin.val_two, reduceCtorEq, Option.map_some, List.length_set, Nat.zero_lt_succ, Option.toList_some, Option.toList_none, List.cons_append, List.nil_append, px_b_2, IA, LA, BA, ZA, QA, PT, DR, TL, MC, CD, CC, false_and, or_false, false_or, nar_b, nar_0, nar_1, nar_y]) | (refine ⟨_, rfl, by omega, ?_⟩) | (refine ⟨fun h => absurd h (nI_nlt (by omega) (by omega)), fun _ => ?_⟩) | (refine ⟨fun _ => ?_, fun h => absurd h (nI_nlt (by omega) (by omega))⟩) | (refine ⟨fun h => absurd (nI_lt (by omega) (by omega)) h, fun _ => ?_⟩) | (refine ⟨fun _ => ?_, fun h => absurd (nI_lt (by omega) (by omega)) h⟩) | (refine ⟨fun h => absurd ((nI_eq (by omega) (by omega)).mp h) (by omega), fun _ => ?_⟩) | (refine ⟨fun _ => ?_, fun h => absurd ((nI_eq (by omega) (by omega)).mp h) (by omega)⟩) | (refine ⟨fun h => absurd h (by decide), fun _ => ?_⟩) | (refine ⟨fun _ => ?_, fun h => absurd h (by decide)⟩) | (refine ⟨fun h => absurd rfl h, fun _ => ?_⟩) | (refine ⟨fun _ => ?_, fun h => absurd rfl h⟩)))
          | some p =>
            obtain ⟨u, v⟩ := p
            obtain ⟨z1, z2, z3⟩ := hrs.2 u v hrn
            rw [z1]
            rw [hrn] at hnx
            (repeat (first | (refine px_st rfl rfl ?_; simp only [px_wp, px_at, px_set, px_set2, px_clr, px_ldi, px_ldl, px_lda, px_i1, px_i2, px_l1, px_l2, px_il, px_a1, px_r1, px_r2, px_ir, px_vir, px_g, px_v1, px_v2, px_gf, px_pf, px_ps, px_ar, px_nth, px_upd, px_zero, px_dfl, px_put_self, px_put_ne, px_sw, nI_add, pk_mul, true_and, and_true, Nat.reduceAdd, Nat.reduceLT, Nat.reduceEqDiff, List.length_cons, List.length_nil, true_or, or_true, List.set_set, ne_eq, not_false_eq_true, Fin.isValue, Fin.val_zero, Fin.val_one, Fin.val_two, reduceCtorEq, Option.map_some, List.length_set, Nat.zero_lt_succ, Option.toList_some, Option.toList_none, List.cons_append, List.nil_append, px_b_2, IA, LA, BA, ZA, QA, PT, DR, TL, MC, CD, CC, false_and, or_false, false_or, nar_b, nar_0, nar_1, nar_y, go, gw, z2, z3]) | (refine ⟨_, rfl, by omega, ?_⟩) | (refine ⟨fun h => absurd h (nI_nlt (by omega) (by omega)), fun _ => ?_⟩) | (refine ⟨fun _ => ?_, fun h => absurd h (nI_nlt (by omega) (by omega))⟩) | (refine ⟨fun h => absurd (nI_lt (by omega) (by omega)) h, fun _ => ?_⟩) | (refine ⟨fun _ => ?_, fun h => absurd (nI_lt (by omega) (by omega)) h⟩) | (refine ⟨fun h => absurd ((nI_eq (by omega) (by omega)).mp h) (by omega), fun _ => ?_⟩) | (refine ⟨fun _ => ?_, fun h => absurd ((nI_eq (by omega) (by omega)).mp h) (by omega)⟩) | (refine ⟨fun h => absurd h (by decide), fun _ => ?_⟩) | (refine ⟨fun _ => ?_, fun h => absurd h (by decide)⟩) | (refine ⟨fun h => absurd rfl h, fun _ => ?_⟩) | (refine ⟨fun _ => ?_, fun h => absurd rfl h⟩)))
            refine px_cV rfl rfl kX3_lead rfl (c_D_lead g35 g36 (show nd < 100 by omega) (show x < 24 by omega) ?_) (Nat.le_refl _) g35 rfl rfl rfl (Nat.le_of_ble_eq_true rfl) (Nat.zero_le _) (Nat.zero_le _)
            rw [kH_36]
            (repeat (first | (exact ihq (x + 1) _ _ (by omega) (fun i hi y hy => by
              by_cases h1 : i = nd ∧ y = x
              · obtain ⟨rfl, rfl⟩ := h1
                rw [pk_us, if_pos (by omega), hnx]; rfl
              · unfold upd
                rw [if_neg (by omega), hf i hi y hy]
                by_cases h2 : i < nd ∨ (i = nd ∧ y < x)
                · rw [if_pos h2, if_pos (by omega)]
                · rw [if_neg h2, if_neg (by omega)])) | (refine px_st rfl rfl ?_; simp only [px_wp, px_at, px_set, px_set2, px_clr, px_ldi, px_ldl, px_lda, px_i1, px_i2, px_l1, px_l2, px_il, px_a1, px_r1, px_r2, px_ir, px_vir, px_g, px_v1, px_v2, px_gf, px_pf, px_ps, px_ar, px_nth, px_upd, px_zero, px_dfl, px_put_self, px_put_ne, px_sw, nI_add, pk_mul, true_and, and_true, Nat.reduceAdd, Nat.reduceLT, Nat.reduceEqDiff, List.length_cons, List.length_nil, true_or, or_true, List.set_set, ne_eq, not_false_eq_true, Fin.isValue, Fin.val_zero, Fin.val_one, Fin.val_two, reduceCtorEq, Option.map_some, List.length_set, Nat.zero_lt_succ, Option.toList_some, Option.toList_none, List.cons_append, List.nil_append, px_b_2, IA, LA, BA, ZA, QA, PT, DR, TL, MC, CD, CC, false_and, or_false, false_or, nar_b, nar_0, nar_1, nar_y]) | (refine ⟨_, rfl, by omega, ?_⟩) | (refine ⟨fun h => absurd h (nI_nlt (by omega) (by omega)), fun _ => ?_⟩) | (refine ⟨fun _ => ?_, fun h => absurd h (nI_nlt (by omega) (by omega))⟩) | (refine ⟨fun h => absurd (nI_lt (by omega) (by omega)) h, fun _ => ?_⟩) | (refine ⟨fun _ => ?_, fun h => absurd (nI_lt (by omega) (by omega)) h⟩) | (refine ⟨fun h => absurd ((nI_eq (by omega) (by omega)).mp h) (by omega), fun _ => ?_⟩) | (refine ⟨fun _ => ?_, fun h => absurd ((nI_eq (by omega) (by omega)).mp h) (by omega)⟩) | (refine ⟨fun h => absurd h (by decide), fun _ => ?_⟩) | (refine ⟨fun _ => ?_, fun h => absurd h (by decide)⟩) | (refine ⟨fun h => absurd rfl h, fun _ => ?_⟩) | (refine ⟨fun _ => ?_, fun h => absurd rfl h⟩)))
      (repeat (first | (exact loop3 12 0 f nw rfl (fun i hi y hy => by
        rw [hf i hi y hy]
        by_cases h1 : i < nd
        · rw [if_pos h1, if_pos (Or.inl h1)]
        · rw [if_neg h1, if_neg (by omega)])) | (refine px_st rfl rfl ?_; simp only [px_wp, px_at, px_set, px_set2, px_clr, px_ldi, px_ldl, px_lda, px_i1, px_i2, px_l1, px_l2, px_il, px_a1, px_r1, px_r2, px_ir, px_vir, px_g, px_v1, px_v2, px_gf, px_pf, px_ps, px_ar, px_nth, px_upd, px_zero, px_dfl, px_put_self, px_put_ne, px_sw, nI_add, pk_mul, true_and, and_true, Nat.reduceAdd, Nat.reduceLT, Nat.reduceEqDiff, List.length_cons, List.length_nil, true_or, or_true, List.set_set, ne_eq, not_false_eq_true, Fin.isValue, Fin.val_zero, Fin.val_one, Fin.val_two, reduceCtorEq, Option.map_some, List.length_set, Nat.zero_lt_succ, Option.toList_some, Option.toList_none, List.cons_append, List.nil_append, px_b_2, IA, LA, BA, ZA, QA, PT, DR, TL, MC, CD, CC, false_and, or_false, false_or, nar_b, nar_0, nar_1, nar_y]) | (refine ⟨_, rfl, by omega, ?_⟩) | (refine ⟨fun h => absurd h (nI_nlt (by omega) (by omega)), fun _ => ?_⟩) | (refine ⟨fun _ => ?_, fun h => absurd h (nI_nlt (by omega) (by omega))⟩) | (refine ⟨fun h => absurd (nI_lt (by omega) (by omega)) h, fun _ => ?_⟩) | (refine ⟨fun _ => ?_, fun h => absurd (nI_lt (by omega) (by omega)) h⟩) | (refine ⟨fun h => absurd ((nI_eq (by omega) (by omega)).mp h) (by omega), fun _ => ?_⟩) | (refine ⟨fun _ => ?_, fun h => absurd ((nI_eq (by omega) (by omega)).mp h) (by omega)⟩) | (refine ⟨fun h => absurd h (by decide), fun _ => ?_⟩) | (refine ⟨fun _ => ?_, fun h => absurd h (by decide)⟩) | (refine ⟨fun h => absurd rfl h, fun _ => ?_⟩) | (refine ⟨fun _ => ?_, fun h => absurd rfl h⟩)))
  -- the nodes
  have loop1 : ∀ (r i : Nat) (f ea : Nat → Int32), i + r = 16 → (∀ j, j < i → ea j = px_b true ∧ ∀ x, x < 24 → f (j * 24 + x) = -2) → px_W G mX0_fill (d + 3) 0 0 Q 0 0 6 [some (.ref o), some (.ref 35), some (.int (nI i)), none] [] (kH ph i f ea w nw0) := by
    intro r
    induction r with
    | zero =>
      intro i f ea hi hf
      have hi16 : i = 16 := by omega
      subst hi16
      (repeat (first | (exact loop2 16 0 f ea nw0 none rfl (fun i hi => (hf i hi).1) (fun i hi x hx => by rw [if_neg (by omega)]; exact (hf i hi).2 x hx)) | (refine px_st rfl rfl ?_; simp only [px_wp, px_at, px_set, px_set2, px_clr, px_ldi, px_ldl, px_lda, px_i1, px_i2, px_l1, px_l2, px_il, px_a1, px_r1, px_r2, px_ir, px_vir, px_g, px_v1, px_v2, px_gf, px_pf, px_ps, px_ar, px_nth, px_upd, px_zero, px_dfl, px_put_self, px_put_ne, px_sw, nI_add, pk_mul, true_and, and_true, Nat.reduceAdd, Nat.reduceLT, Nat.reduceEqDiff, List.length_cons, List.length_nil, true_or, or_true, List.set_set, ne_eq, not_false_eq_true, Fin.isValue, Fin.val_zero, Fin.val_one, Fin.val_two, reduceCtorEq, Option.map_some, List.length_set, Nat.zero_lt_succ, Option.toList_some, Option.toList_none, List.cons_append, List.nil_append, px_b_2, IA, LA, BA, ZA, QA, PT, DR, TL, MC, CD, CC, false_and, or_false, false_or, nar_b, nar_0, nar_1, nar_y]) | (refine ⟨_, rfl, by omega, ?_⟩) | (refine ⟨fun h => absurd h (nI_nlt (by omega) (by omega)), fun _ => ?_⟩) | (refine ⟨fun _ => ?_, fun h => absurd h (nI_nlt (by omega) (by omega))⟩) | (refine ⟨fun h => absurd (nI_lt (by omega) (by omega)) h, fun _ => ?_⟩) | (refine ⟨fun _ => ?_, fun h => absurd (nI_lt (by omega) (by omega)) h⟩) | (refine ⟨fun h => absurd ((nI_eq (by omega) (by omega)).mp h) (by omega), fun _ => ?_⟩) | (refine ⟨fun _ => ?_, fun h => absurd ((nI_eq (by omega) (by omega)).mp h) (by omega)⟩) | (refine ⟨fun h => absurd h (by decide), fun _ => ?_⟩) | (refine ⟨fun _ => ?_, fun h => absurd h (by decide)⟩) | (refine ⟨fun h => absurd rfl h, fun _ => ?_⟩) | (refine ⟨fun _ => ?_, fun h => absurd rfl h⟩)))
    | succ r ih =>
      intro i f ea hi hf
      (repeat (first | (refine px_st rfl rfl ?_; simp only [px_wp, px_at, px_set, px_set2, px_clr, px_ldi, px_ldl, px_lda, px_i1, px_i2, px_l1, px_l2, px_il, px_a1, px_r1, px_r2, px_ir, px_vir, px_g, px_v1, px_v2, px_gf, px_pf, px_ps, px_ar, px_nth, px_upd, px_zero, px_dfl, px_put_self, px_put_ne, px_sw, nI_add, pk_mul, true_and, and_true, Nat.reduceAdd, Nat.reduceLT, Nat.reduceEqDiff, List.length_cons, List.length_nil, true_or, or_true, List.set_set, ne_eq, not_false_eq_true, Fin.isValue, Fin.val_zero, Fin.val_one, Fin.val_two, reduceCtorEq, Option.map_some, List.length_set, Nat.zero_lt_succ, Option.toList_some, Option.toList_none, List.cons_append, List.nil_append, px_b_2, IA, LA, BA, ZA, QA, PT, DR, TL, MC, CD, CC, false_and, or_false, false_or, nar_b, nar_0, nar_1, nar_y]) | (refine ⟨_, rfl, by omega, ?_⟩) | (refine ⟨fun h => absurd h (nI_nlt (by omega) (by omega)), fun _ => ?_⟩) | (refine ⟨fun _ => ?_, fun h => absurd h (nI_nlt (by omega) (by omega))⟩) | (refine ⟨fun h => absurd (nI_lt (by omega) (by omega)) h, fun _ => ?_⟩) | (refine ⟨fun _ => ?_, fun h => absurd (nI_lt (by omega) (by omega)) h⟩) | (refine ⟨fun h => absurd ((nI_eq (by omega) (by omega)).mp h) (by omega), fun _ => ?_⟩) | (refine ⟨fun _ => ?_, fun h => absurd ((nI_eq (by omega) (by omega)).mp h) (by omega)⟩) | (refine ⟨fun h => absurd h (by decide), fun _ => ?_⟩) | (refine ⟨fun _ => ?_, fun h => absurd h (by decide)⟩) | (refine ⟨fun h => absurd rfl h, fun _ => ?_⟩) | (refine ⟨fun _ => ?_, fun h => absurd rfl h⟩)))
      refine px_cV rfl rfl kX3_add rfl (c_D_add (d := d) (z := true) (show i ≤ 100 by omega) g35 g36 g37 (fun h => absurd h (by omega)) (fun _ => ?_)) (Nat.le_refl _) g35 rfl rfl rfl (Nat.le_of_ble_eq_true rfl) (Nat.zero_le _) (Nat.zero_le _)
      rw [kH_35, kH_36, kH_37]
      (repeat (first | (exact ih (i + 1) _ _ (by omega) (fun j hj => by
        by_cases hji : j = i
        · subst hji
          refine ⟨pk_us, fun x hx => ?_⟩
          unfold va_fillR
          rw [if_pos (by omega)]
        · refine ⟨?_, fun x hx => ?_⟩
          · unfold upd; rw [if_neg hji]; exact (hf j (by omega)).1
          · unfold va_fillR
            rw [if_neg (by omega)]
            exact (hf j (by omega)).2 x hx)) | (refine px_st rfl rfl ?_; simp only [px_wp, px_at, px_set, px_set2, px_clr, px_ldi, px_ldl, px_lda, px_i1, px_i2, px_l1, px_l2, px_il, px_a1, px_r1, px_r2, px_ir, px_vir, px_g, px_v1, px_v2, px_gf, px_pf, px_ps, px_ar, px_nth, px_upd, px_zero, px_dfl, px_put_self, px_put_ne, px_sw, nI_add, pk_mul, true_and, and_true, Nat.reduceAdd, Nat.reduceLT, Nat.reduceEqDiff, List.length_cons, List.length_nil, true_or, or_true, List.set_set, ne_eq, not_false_eq_true, Fin.isValue, Fin.val_zero, Fin.val_one, Fin.val_two, reduceCtorEq, Option.map_some, List.length_set, Nat.zero_lt_succ, Option.toList_some, Option.toList_none, List.cons_append, List.nil_append, px_b_2, IA, LA, BA, ZA, QA, PT, DR, TL, MC, CD, CC, false_and, or_false, false_or, nar_b, nar_0, nar_1, nar_y]) | (refine ⟨_, rfl, by omega, ?_⟩) | (refine ⟨fun h => absurd h (nI_nlt (by omega) (by omega)), fun _ => ?_⟩) | (refine ⟨fun _ => ?_, fun h => absurd h (nI_nlt (by omega) (by omega))⟩) | (refine ⟨fun h => absurd (nI_lt (by omega) (by omega)) h, fun _ => ?_⟩) | (refine ⟨fun _ => ?_, fun h => absurd (nI_lt (by omega) (by omega)) h⟩) | (refine ⟨fun h => absurd ((nI_eq (by omega) (by omega)).mp h) (by omega), fun _ => ?_⟩) | (refine ⟨fun _ => ?_, fun h => absurd ((nI_eq (by omega) (by omega)).mp h) (by omega)⟩) | (refine ⟨fun h => absurd h (by decide), fun _ => ?_⟩) | (refine ⟨fun _ => ?_, fun h => absurd h (by decide)⟩) | (refine ⟨fun h => absurd rfl h, fun _ => ?_⟩) | (refine ⟨fun _ => ?_, fun h => absurd rfl h⟩)))
  have h0 := loop1 16 0 f0 ea0 rfl (fun j hj => absurd hj (by omega))
  (repeat (first | (refine ⟨_, rfl, by omega, ?_⟩) | (refine px_st rfl rfl ?_; simp only [px_wp, px_at, px_set, px_set2, px_clr, px_ldi, px_ldl, px_lda, px_i1, px_i2, px_l1, px_l2, px_il, px_a1, px_r1, px_r2, px_ir, px_vir, px_g, px_v1, px_v2, px_gf, px_pf, px_ps, px_ar, px_nth, px_upd, px_zero, px_dfl, px_put_self, px_put_ne, px_sw, nI_add, pk_mul, true_and, and_true, Nat.reduceAdd, Nat.reduceLT, Nat.reduceEqDiff, List.length_cons, List.length_nil, true_or, or_true, List.set_set, ne_eq, not_false_eq_true, Fin.isValue, Fin.val_zero, Fin.val_one, Fin.val_two, reduceCtorEq, Option.map_some, List.length_set, Nat.zero_lt_succ, Option.toList_some, Option.toList_none, List.cons_append, List.nil_append, px_b_2, IA, LA, BA, ZA, QA, PT, DR, TL, MC, CD, CC, false_and, or_false, false_or, nar_b, nar_0, nar_1, nar_y])))
  refine px_cV rfl rfl kX3_clear rfl (c_D_clear h35 ?_) (Nat.le_refl _) h35 rfl rfl rfl (Nat.le_of_ble_eq_true rfl) (Nat.zero_le _) (Nat.zero_le _)
  have e0 : ph.set 35 (DR 0) = kH ph 0 f0 ea0 w nw0 := by
    rw [← kH_35 (c := c0), kH_id hw h35 h36 h37 hnw]
  rw [e0]
  (repeat (first | (exact h0) | (refine ⟨_, rfl, by omega, ?_⟩) | (refine px_st rfl rfl ?_; simp only [px_wp, px_at, px_set, px_set2, px_clr, px_ldi, px_ldl, px_lda, px_i1, px_i2, px_l1, px_l2, px_il, px_a1, px_r1, px_r2, px_ir, px_vir, px_g, px_v1, px_v2, px_gf, px_pf, px_ps, px_ar, px_nth, px_upd, px_zero, px_dfl, px_put_self, px_put_ne, px_sw, nI_add, pk_mul, true_and, and_true, Nat.reduceAdd, Nat.reduceLT, Nat.reduceEqDiff, List.length_cons, List.length_nil, true_or, or_true, List.set_set, ne_eq, not_false_eq_true, Fin.isValue, Fin.val_zero, Fin.val_one, Fin.val_two, reduceCtorEq, Option.map_some, List.length_set, Nat.zero_lt_succ, Option.toList_some, Option.toList_none, List.cons_append, List.nil_append, px_b_2, IA, LA, BA, ZA, QA, PT, DR, TL, MC, CD, CC, false_and, or_false, false_or, nar_b, nar_0, nar_1, nar_y])))
set_option maxRecDepth 100000 in
set_option maxHeartbeats 4000000 in
theorem c_N_behind {k node : Nat} {F0 F1 F2 F3 : Nat → Int32} {K F V : Nat → Nat} {n : Nat} (hk : k < 48) (hn : node < 16) (hn6 : n ≤ 6) (h100 : ph[100]? = some (MD m)) (h127 : ph[127]? = some (IA 48 F0)) (h128 : ph[128]? = some (IA 288 F1)) (h129 : ph[129]? = some (IA 288 F2)) (h130 : ph[130]? = some (IA 288 F3)) (hF0 : F0 k = nI n) (hK : KFV F1 F2 F3 (6 * k) n K F V) (hQ : Q (some (.int (mnum ((rn K F V n 0 (node / 4) (node % 4)).map (fun p => p.1 * 4 + p.2))))) ph) : px_Met G mX12_behind d 0 0 [.ref 100, .int (nI k), .int (nI node)] ph Q := by
  refine px_start kX12_behind (Nat.le_of_ble_eq_true rfl) ?_
  show px_W G _ _ _ _ _ 0 0 0 [some (.ref 100), some (.int (nI k)), some (.int (nI node)), none, none, none, none, none] [] ph
  generalize hT : rn K F V n 0 (node / 4) (node % 4) = T at hQ
  have key : ∀ (r j a b : Nat) (x7 : Option Value), j + r = n → a < 4 → b < 4 → rn K F V r j a b = T → px_W G mX12_behind d 0 0 Q 0 0 18 [some (.ref 100), some (.int (nI k)), some (.int (nI node)), some (.int (nI a)), some (.int (nI b)), some (.int (nI 1)), some (.int (nI (6 * k + j))), x7] [] ph := by
    intro r
    induction r with
    | zero =>
      intro j a b x7 hj ha hb hr
      have hjn : j = n := by omega
      subst hjn
      have hr : some (a, b) = T := hr
      rw [← hr] at hQ
      have hQ : Q (some (.int (nI (a * 4 + b)))) ph := hQ
      rw [Nat.mul_comm] at hQ
      (repeat (first | (refine px_st rfl rfl ?_; simp only [px_wp, px_at, px_set, px_set2, px_clr, px_ldi, px_ldl, px_lda, px_i1, px_i2, px_l1, px_l2, px_il, px_a1, px_r1, px_r2, px_ir, px_vir, px_g, px_v1, px_v2, px_gf, px_pf, px_ps, px_ar, px_nth, px_upd, px_zero, px_dfl, px_put_self, px_put_ne, px_sw, nI_add, pk_mul, true_and, and_true, Nat.reduceAdd, Nat.reduceLT, Nat.reduceEqDiff, List.length_cons, List.length_nil, true_or, or_true, List.set_set, ne_eq, not_false_eq_true, Fin.isValue, Fin.val_zero, Fin.val_one, Fin.val_two, reduceCtorEq, Option.map_some, List.length_set, Nat.zero_lt_succ, Option.toList_some, Option.toList_none, List.cons_append, List.nil_append, px_b_2, IA, LA, BA, ZA, QA, PT, DR, TL, MC, CD, CC, false_and, or_false, false_or, nar_b, nar_0, nar_1, nar_y, h100, g_steps, h127, hF0]) | (refine ⟨_, rfl, by omega, ?_⟩) | (refine ⟨fun h => absurd h (nI_nlt (by omega) (by omega)), fun _ => ?_⟩) | (refine ⟨fun _ => ?_, fun h => absurd h (nI_nlt (by omega) (by omega))⟩) | (refine ⟨fun h => absurd (nI_lt (by omega) (by omega)) h, fun _ => ?_⟩) | (refine ⟨fun _ => ?_, fun h => absurd (nI_lt (by omega) (by omega)) h⟩) | (refine ⟨fun h => absurd ((nI_eq (by omega) (by omega)).mp h) (by omega), fun _ => ?_⟩) | (refine ⟨fun _ => ?_, fun h => absurd ((nI_eq (by omega) (by omega)).mp h) (by omega)⟩) | (refine ⟨fun h => absurd h (by decide), fun _ => ?_⟩) | (refine ⟨fun _ => ?_, fun h => absurd h (by decide)⟩) | (refine ⟨fun h => absurd rfl h, fun _ => ?_⟩) | (refine ⟨fun _ => ?_, fun h => absurd rfl h⟩)))
      exact px_ireturn rfl (Or.inl rfl) (Nat.le_refl _) (Nat.le_refl _) hQ
    | succ r ih =>
      intro j a b x7 hj ha hb hr
      obtain ⟨k1, k2, k3, k4, k5, k6⟩ := hK j (by omega)
      unfold rn at hr
      have k3' : F j = 0 ∨ F j = 1 := by omega
      -- behind the choice of the field
      have v1 : px_W G mX12_behind d 0 0 Q 0 0 57 [some (.ref 100), some (.int (nI k)), some (.int (nI node)), some (.int (nI a)), some (.int (nI b)), some (.int (nI 1)), some (.int (nI (6 * k + j))), some (.int (nI (if F j = 0 then a else b)))] [] ph := by
        have hab : (if F j = 0 then a else b) < 4 := by split <;> assumption
        by_cases hK2 : K j = 2
        · rw [if_pos hK2] at hr
          rw [hK2] at k1
          rcases k3' with h0 | h0
          · rw [if_pos h0] at hr
            rw [h0] at k3
            have hih := ih (j + 1) (V j) b (some (.int (nI (if F j = 0 then a else b)))) (by omega) k6 hb hr
            (repeat (first | (exact hih) | (refine px_st rfl rfl ?_; simp only [px_wp, px_at, px_set, px_set2, px_clr, px_ldi, px_ldl, px_lda, px_i1, px_i2, px_l1, px_l2, px_il, px_a1, px_r1, px_r2, px_ir, px_vir, px_g, px_v1, px_v2, px_gf, px_pf, px_ps, px_ar, px_nth, px_upd, px_zero, px_dfl, px_put_self, px_put_ne, px_sw, nI_add, pk_mul, true_and, and_true, Nat.reduceAdd, Nat.reduceLT, Nat.reduceEqDiff, List.length_cons, List.length_nil, true_or, or_true, List.set_set, ne_eq, not_false_eq_true, Fin.isValue, Fin.val_zero, Fin.val_one, Fin.val_two, reduceCtorEq, Option.map_some, List.length_set, Nat.zero_lt_succ, Option.toList_some, Option.toList_none, List.cons_append, List.nil_append, px_b_2, IA, LA, BA, ZA, QA, PT, DR, TL, MC, CD, CC, false_and, or_false, false_or, nar_b, nar_0, nar_1, nar_y, h100, g_stepKind, g_stepField, g_stepValue, h128, h129, h130, k1, k3, k5]) | (refine ⟨_, rfl, by omega, ?_⟩) | (refine ⟨fun h => absurd h (nI_nlt (by omega) (by omega)), fun _ => ?_⟩) | (refine ⟨fun _ => ?_, fun h => absurd h (nI_nlt (by omega) (by omega))⟩) | (refine ⟨fun h => absurd (nI_lt (by omega) (by omega)) h, fun _ => ?_⟩) | (refine ⟨fun _ => ?_, fun h => absurd (nI_lt (by omega) (by omega)) h⟩) | (refine ⟨fun h => absurd ((nI_eq (by omega) (by omega)).mp h) (by omega), fun _ => ?_⟩) | (refine ⟨fun _ => ?_, fun h => absurd ((nI_eq (by omega) (by omega)).mp h) (by omega)⟩) | (refine ⟨fun h => absurd h (by decide), fun _ => ?_⟩) | (refine ⟨fun _ => ?_, fun h => absurd h (by decide)⟩) | (refine ⟨fun h => absurd rfl h, fun _ => ?_⟩) | (refine ⟨fun _ => ?_, fun h => absurd rfl h⟩)))
          · rw [if_neg (by omega)] at hr
            rw [h0] at k3
            have hih := ih (j + 1) a (V j) (some (.int (nI (if F j = 0 then a else b)))) (by omega) ha k6 hr
            (repeat (first | (exact hih) | (refine px_st rfl rfl ?_; simp only [px_wp, px_at, px_set, px_set2, px_clr, px_ldi, px_ldl, px_lda, px_i1, px_i2, px_l1, px_l2, px_il, px_a1, px_r1, px_r2, px_ir, px_vir, px_g, px_v1, px_v2, px_gf, px_pf, px_ps, px_ar, px_nth, px_upd, px_zero, px_dfl, px_put_self, px_put_ne, px_sw, nI_add, pk_mul, true_and, and_true, Nat.reduceAdd, Nat.reduceLT, Nat.reduceEqDiff, List.length_cons, List.length_nil, true_or, or_true, List.set_set, ne_eq, not_false_eq_true, Fin.isValue, Fin.val_zero, Fin.val_one, Fin.val_two, reduceCtorEq, Option.map_some, List.length_set, Nat.zero_lt_succ, Option.toList_some, Option.toList_none, List.cons_append, List.nil_append, px_b_2, IA, LA, BA, ZA, QA, PT, DR, TL, MC, CD, CC, false_and, or_false, false_or, nar_b, nar_0, nar_1, nar_y, h100, g_stepKind, g_stepField, g_stepValue, h128, h129, h130, k1, k3, k5]) | (refine ⟨_, rfl, by omega, ?_⟩) | (refine ⟨fun h => absurd h (nI_nlt (by omega) (by omega)), fun _ => ?_⟩) | (refine ⟨fun _ => ?_, fun h => absurd h (nI_nlt (by omega) (by omega))⟩) | (refine ⟨fun h => absurd (nI_lt (by omega) (by omega)) h, fun _ => ?_⟩) | (refine ⟨fun _ => ?_, fun h => absurd (nI_lt (by omega) (by omega)) h⟩) | (refine ⟨fun h => absurd ((nI_eq (by omega) (by omega)).mp h) (by omega), fun _ => ?_⟩) | (refine ⟨fun _ => ?_, fun h => absurd ((nI_eq (by omega) (by omega)).mp h) (by omega)⟩) | (refine ⟨fun h => absurd h (by decide), fun _ => ?_⟩) | (refine ⟨fun _ => ?_, fun h => absurd h (by decide)⟩) | (refine ⟨fun h => absurd rfl h, fun _ => ?_⟩) | (refine ⟨fun _ => ?_, fun h => absurd rfl h⟩)))
        · rw [if_neg hK2] at hr
          generalize (if F j = 0 then a else b) = y at hr hab ⊢
          have back : ∀ s t : Bool, s = decide (y = V j) → t = decide (K j = 1) → px_W G mX12_behind d 0 0 Q 0 0 151 [some (.ref 100), some (.int (nI k)), some (.int (nI node)), some (.int (nI a)), some (.int (nI b)), some (.int (nI 1)), some (.int (nI (6 * k + j))), some (.int (nI y))] [.int (px_b t), .int (px_b s)] ph := by
            intro s t hs ht
            by_cases hst : s = t
            · have hc : (y = V j ↔ K j = 1) := by
                rw [hs, ht] at hst
                exact decide_eq_decide.mp hst
              rw [if_pos hc] at hr
              have hih := ih (j + 1) a b (some (.int (nI y))) (by omega) ha hb hr
              subst hst
              (repeat (first | (exact hih) | (refine px_st rfl rfl ?_; simp only [px_wp, px_at, px_set, px_set2, px_clr, px_ldi, px_ldl, px_lda, px_i1, px_i2, px_l1, px_l2, px_il, px_a1, px_r1, px_r2, px_ir, px_vir, px_g, px_v1, px_v2, px_gf, px_pf, px_ps, px_ar, px_nth, px_upd, px_zero, px_dfl, px_put_self, px_put_ne, px_sw, nI_add, pk_mul, true_and, and_true, Nat.reduceAdd, Nat.reduceLT, Nat.reduceEqDiff, List.length_cons, List.length_nil, true_or, or_true, List.set_set, ne_eq, not_false_eq_true, Fin.isValue, Fin.val_zero, Fin.val_one, Fin.val_two, reduceCtorEq, Option.map_some, List.length_set, Nat.zero_lt_succ, Option.toList_some, Option.toList_none, List.cons_append, List.nil_append, px_b_2, IA, LA, BA, ZA, QA, PT, DR, TL, MC, CD, CC, false_and, or_false, false_or, nar_b, nar_0, nar_1, nar_y]) | (refine ⟨_, rfl, by omega, ?_⟩) | (refine ⟨fun h => absurd h (nI_nlt (by omega) (by omega)), fun _ => ?_⟩) | (refine ⟨fun _ => ?_, fun h => absurd h (nI_nlt (by omega) (by omega))⟩) | (refine ⟨fun h => absurd (nI_lt (by omega) (by omega)) h, fun _ => ?_⟩) | (refine ⟨fun _ => ?_, fun h => absurd (nI_lt (by omega) (by omega)) h⟩) | (refine ⟨fun h => absurd ((nI_eq (by omega) (by omega)).mp h) (by omega), fun _ => ?_⟩) | (refine ⟨fun _ => ?_, fun h => absurd ((nI_eq (by omega) (by omega)).mp h) (by omega)⟩) | (refine ⟨fun h => absurd h (by decide), fun _ => ?_⟩) | (refine ⟨fun _ => ?_, fun h => absurd h (by decide)⟩) | (refine ⟨fun h => absurd rfl h, fun _ => ?_⟩) | (refine ⟨fun _ => ?_, fun h => absurd rfl h⟩)))
            · have hc : ¬ (y = V j ↔ K j = 1) := fun q => hst (by rw [hs, ht]; exact decide_eq_decide.mpr q)
              rw [if_neg hc] at hr
              rw [← hr] at hQ
              have hQ : Q (some (.int (-1))) ph := hQ
              cases s <;> cases t
              · exact absurd rfl hst
              · (repeat (first | (refine px_st rfl rfl ?_; simp only [px_wp, px_at, px_set, px_set2, px_clr, px_ldi, px_ldl, px_lda, px_i1, px_i2, px_l1, px_l2, px_il, px_a1, px_r1, px_r2, px_ir, px_vir, px_g, px_v1, px_v2, px_gf, px_pf, px_ps, px_ar, px_nth, px_upd, px_zero, px_dfl, px_put_self, px_put_ne, px_sw, nI_add, pk_mul, true_and, and_true, Nat.reduceAdd, Nat.reduceLT, Nat.reduceEqDiff, List.length_cons, List.length_nil, true_or, or_true, List.set_set, ne_eq, not_false_eq_true, Fin.isValue, Fin.val_zero, Fin.val_one, Fin.val_two, reduceCtorEq, Option.map_some, List.length_set, Nat.zero_lt_succ, Option.toList_some, Option.toList_none, List.cons_append, List.nil_append, px_b_2, IA, LA, BA, ZA, QA, PT, DR, TL, MC, CD, CC, false_and, or_false, false_or, nar_b, nar_0, nar_1, nar_y]) | (refine ⟨_, rfl, by omega, ?_⟩) | (refine ⟨fun h => absurd h (nI_nlt (by omega) (by omega)), fun _ => ?_⟩) | (refine ⟨fun _ => ?_, fun h => absurd h (nI_nlt (by omega) (by omega))⟩) | (refine ⟨fun h => absurd (nI_lt (by omega) (by omega)) h, fun _ => ?_⟩) | (refine ⟨fun _ => ?_, fun h => absurd (nI_lt (by omega) (by omega)) h⟩) | (refine ⟨fun h => absurd ((nI_eq (by omega) (by omega)).mp h) (by omega), fun _ => ?_⟩) | (refine ⟨fun _ => ?_, fun h => absurd ((nI_eq (by omega) (by omega)).mp h) (by omega)⟩) | (refine ⟨fun h => absurd h (by decide), fun _ => ?_⟩) | (refine ⟨fun _ => ?_, fun h => absurd h (by decide)⟩) | (refine ⟨fun h => absurd rfl h, fun _ => ?_⟩) | (refine ⟨fun _ => ?_, fun h => absurd rfl h⟩)))
                exact px_ireturn rfl (Or.inl rfl) (Nat.le_refl _) (Nat.le_refl _) hQ
              · (repeat (first | (refine px_st rfl rfl ?_; simp only [px_wp, px_at, px_set, px_set2, px_clr, px_ldi, px_ldl, px_lda, px_i1, px_i2, px_l1, px_l2, px_il, px_a1, px_r1, px_r2, px_ir, px_vir, px_g, px_v1, px_v2, px_gf, px_pf, px_ps, px_ar, px_nth, px_upd, px_zero, px_dfl, px_put_self, px_put_ne, px_sw, nI_add, pk_mul, true_and, and_true, Nat.reduceAdd, Nat.reduceLT, Nat.reduceEqDiff, List.length_cons, List.length_nil, true_or, or_true, List.set_set, ne_eq, not_false_eq_true, Fin.isValue, Fin.val_zero, Fin.val_one, Fin.val_two, reduceCtorEq, Option.map_some, List.length_set, Nat.zero_lt_succ, Option.toList_some, Option.toList_none, List.cons_append, List.nil_append, px_b_2, IA, LA, BA, ZA, QA, PT, DR, TL, MC, CD, CC, false_and, or_false, false_or, nar_b, nar_0, nar_1, nar_y]) | (refine ⟨_, rfl, by omega, ?_⟩) | (refine ⟨fun h => absurd h (nI_nlt (by omega) (by omega)), fun _ => ?_⟩) | (refine ⟨fun _ => ?_, fun h => absurd h (nI_nlt (by omega) (by omega))⟩) | (refine ⟨fun h => absurd (nI_lt (by omega) (by omega)) h, fun _ => ?_⟩) | (refine ⟨fun _ => ?_, fun h => absurd (nI_lt (by omega) (by omega)) h⟩) | (refine ⟨fun h => absurd ((nI_eq (by omega) (by omega)).mp h) (by omega), fun _ => ?_⟩) | (refine ⟨fun _ => ?_, fun h => absurd ((nI_eq (by omega) (by omega)).mp h) (by omega)⟩) | (refine ⟨fun h => absurd h (by decide), fun _ => ?_⟩) | (refine ⟨fun _ => ?_, fun h => absurd h (by decide)⟩) | (refine ⟨fun h => absurd rfl h, fun _ => ?_⟩) | (refine ⟨fun _ => ?_, fun h => absurd rfl h⟩)))
                exact px_ireturn rfl (Or.inl rfl) (Nat.le_refl _) (Nat.le_refl _) hQ
              · exact absurd rfl hst
          by_cases hy : y = V j <;> by_cases hK1 : K j = 1
          · have hb0 := back true true (decide_eq_true hy).symm (decide_eq_true hK1).symm
            rw [hK1] at k1
            subst hy
            (repeat (first | (exact hb0) | (refine px_st rfl rfl ?_; simp only [px_wp, px_at, px_set, px_set2, px_clr, px_ldi, px_ldl, px_lda, px_i1, px_i2, px_l1, px_l2, px_il, px_a1, px_r1, px_r2, px_ir, px_vir, px_g, px_v1, px_v2, px_gf, px_pf, px_ps, px_ar, px_nth, px_upd, px_zero, px_dfl, px_put_self, px_put_ne, px_sw, nI_add, pk_mul, true_and, and_true, Nat.reduceAdd, Nat.reduceLT, Nat.reduceEqDiff, List.length_cons, List.length_nil, true_or, or_true, List.set_set, ne_eq, not_false_eq_true, Fin.isValue, Fin.val_zero, Fin.val_one, Fin.val_two, reduceCtorEq, Option.map_some, List.length_set, Nat.zero_lt_succ, Option.toList_some, Option.toList_none, List.cons_append, List.nil_append, px_b_2, IA, LA, BA, ZA, QA, PT, DR, TL, MC, CD, CC, false_and, or_false, false_or, nar_b, nar_0, nar_1, nar_y, h100, g_stepKind, g_stepValue, h128, h130, k1, k5]) | (refine ⟨_, rfl, by omega, ?_⟩) | (refine ⟨fun h => absurd h (nI_nlt (by omega) (by omega)), fun _ => ?_⟩) | (refine ⟨fun _ => ?_, fun h => absurd h (nI_nlt (by omega) (by omega))⟩) | (refine ⟨fun h => absurd (nI_lt (by omega) (by omega)) h, fun _ => ?_⟩) | (refine ⟨fun _ => ?_, fun h => absurd (nI_lt (by omega) (by omega)) h⟩) | (refine ⟨fun h => absurd ((nI_eq (by omega) (by omega)).mp h) (by omega), fun _ => ?_⟩) | (refine ⟨fun _ => ?_, fun h => absurd ((nI_eq (by omega) (by omega)).mp h) (by omega)⟩) | (refine ⟨fun h => absurd h (by decide), fun _ => ?_⟩) | (refine ⟨fun _ => ?_, fun h => absurd h (by decide)⟩) | (refine ⟨fun h => absurd rfl h, fun _ => ?_⟩) | (refine ⟨fun _ => ?_, fun h => absurd rfl h⟩)))
          · have hb0 := back true false (decide_eq_true hy).symm (decide_eq_false hK1).symm
            subst hy
            (repeat (first | (exact hb0) | (refine px_st rfl rfl ?_; simp only [px_wp, px_at, px_set, px_set2, px_clr, px_ldi, px_ldl, px_lda, px_i1, px_i2, px_l1, px_l2, px_il, px_a1, px_r1, px_r2, px_ir, px_vir, px_g, px_v1, px_v2, px_gf, px_pf, px_ps, px_ar, px_nth, px_upd, px_zero, px_dfl, px_put_self, px_put_ne, px_sw, nI_add, pk_mul, true_and, and_true, Nat.reduceAdd, Nat.reduceLT, Nat.reduceEqDiff, List.length_cons, List.length_nil, true_or, or_true, List.set_set, ne_eq, not_false_eq_true, Fin.isValue, Fin.val_zero, Fin.val_one, Fin.val_two, reduceCtorEq, Option.map_some, List.length_set, Nat.zero_lt_succ, Option.toList_some, Option.toList_none, List.cons_append, List.nil_append, px_b_2, IA, LA, BA, ZA, QA, PT, DR, TL, MC, CD, CC, false_and, or_false, false_or, nar_b, nar_0, nar_1, nar_y, h100, g_stepKind, g_stepValue, h128, h130, k1, k5]) | (refine ⟨_, rfl, by omega, ?_⟩) | (refine ⟨fun h => absurd h (nI_nlt (by omega) (by omega)), fun _ => ?_⟩) | (refine ⟨fun _ => ?_, fun h => absurd h (nI_nlt (by omega) (by omega))⟩) | (refine ⟨fun h => absurd (nI_lt (by omega) (by omega)) h, fun _ => ?_⟩) | (refine ⟨fun _ => ?_, fun h => absurd (nI_lt (by omega) (by omega)) h⟩) | (refine ⟨fun h => absurd ((nI_eq (by omega) (by omega)).mp h) (by omega), fun _ => ?_⟩) | (refine ⟨fun _ => ?_, fun h => absurd ((nI_eq (by omega) (by omega)).mp h) (by omega)⟩) | (refine ⟨fun h => absurd h (by decide), fun _ => ?_⟩) | (refine ⟨fun _ => ?_, fun h => absurd h (by decide)⟩) | (refine ⟨fun h => absurd rfl h, fun _ => ?_⟩) | (refine ⟨fun _ => ?_, fun h => absurd rfl h⟩)))
          · have hb0 := back false true (decide_eq_false hy).symm (decide_eq_true hK1).symm
            rw [hK1] at k1
            (repeat (first | (exact hb0) | (refine px_st rfl rfl ?_; simp only [px_wp, px_at, px_set, px_set2, px_clr, px_ldi, px_ldl, px_lda, px_i1, px_i2, px_l1, px_l2, px_il, px_a1, px_r1, px_r2, px_ir, px_vir, px_g, px_v1, px_v2, px_gf, px_pf, px_ps, px_ar, px_nth, px_upd, px_zero, px_dfl, px_put_self, px_put_ne, px_sw, nI_add, pk_mul, true_and, and_true, Nat.reduceAdd, Nat.reduceLT, Nat.reduceEqDiff, List.length_cons, List.length_nil, true_or, or_true, List.set_set, ne_eq, not_false_eq_true, Fin.isValue, Fin.val_zero, Fin.val_one, Fin.val_two, reduceCtorEq, Option.map_some, List.length_set, Nat.zero_lt_succ, Option.toList_some, Option.toList_none, List.cons_append, List.nil_append, px_b_2, IA, LA, BA, ZA, QA, PT, DR, TL, MC, CD, CC, false_and, or_false, false_or, nar_b, nar_0, nar_1, nar_y, h100, g_stepKind, g_stepValue, h128, h130, k1, k5]) | (refine ⟨_, rfl, by omega, ?_⟩) | (refine ⟨fun h => absurd h (nI_nlt (by omega) (by omega)), fun _ => ?_⟩) | (refine ⟨fun _ => ?_, fun h => absurd h (nI_nlt (by omega) (by omega))⟩) | (refine ⟨fun h => absurd (nI_lt (by omega) (by omega)) h, fun _ => ?_⟩) | (refine ⟨fun _ => ?_, fun h => absurd (nI_lt (by omega) (by omega)) h⟩) | (refine ⟨fun h => absurd ((nI_eq (by omega) (by omega)).mp h) (by omega), fun _ => ?_⟩) | (refine ⟨fun _ => ?_, fun h => absurd ((nI_eq (by omega) (by omega)).mp h) (by omega)⟩) | (refine ⟨fun h => absurd h (by decide), fun _ => ?_⟩) | (refine ⟨fun _ => ?_, fun h => absurd h (by decide)⟩) | (refine ⟨fun h => absurd rfl h, fun _ => ?_⟩) | (refine ⟨fun _ => ?_, fun h => absurd rfl h⟩)))
          · have hb0 := back false false (decide_eq_false hy).symm (decide_eq_false hK1).symm
            (repeat (first | (exact hb0) | (refine px_st rfl rfl ?_; simp only [px_wp, px_at, px_set, px_set2, px_clr, px_ldi, px_ldl, px_lda, px_i1, px_i2, px_l1, px_l2, px_il, px_a1, px_r1, px_r2, px_ir, px_vir, px_g, px_v1, px_v2, px_gf, px_pf, px_ps, px_ar, px_nth, px_upd, px_zero, px_dfl, px_put_self, px_put_ne, px_sw, nI_add, pk_mul, true_and, and_true, Nat.reduceAdd, Nat.reduceLT, Nat.reduceEqDiff, List.length_cons, List.length_nil, true_or, or_true, List.set_set, ne_eq, not_false_eq_true, Fin.isValue, Fin.val_zero, Fin.val_one, Fin.val_two, reduceCtorEq, Option.map_some, List.length_set, Nat.zero_lt_succ, Option.toList_some, Option.toList_none, List.cons_append, List.nil_append, px_b_2, IA, LA, BA, ZA, QA, PT, DR, TL, MC, CD, CC, false_and, or_false, false_or, nar_b, nar_0, nar_1, nar_y, h100, g_stepKind, g_stepValue, h128, h130, k1, k5]) | (refine ⟨_, rfl, by omega, ?_⟩) | (refine ⟨fun h => absurd h (nI_nlt (by omega) (by omega)), fun _ => ?_⟩) | (refine ⟨fun _ => ?_, fun h => absurd h (nI_nlt (by omega) (by omega))⟩) | (refine ⟨fun h => absurd (nI_lt (by omega) (by omega)) h, fun _ => ?_⟩) | (refine ⟨fun _ => ?_, fun h => absurd (nI_lt (by omega) (by omega)) h⟩) | (refine ⟨fun h => absurd ((nI_eq (by omega) (by omega)).mp h) (by omega), fun _ => ?_⟩) | (refine ⟨fun _ => ?_, fun h => absurd ((nI_eq (by omega) (by omega)).mp h) (by omega)⟩) | (refine ⟨fun h => absurd h (by decide), fun _ => ?_⟩) | (refine ⟨fun _ => ?_, fun h => absurd h (by decide)⟩) | (refine ⟨fun h => absurd rfl h, fun _ => ?_⟩) | (refine ⟨fun _ => ?_, fun h => absurd rfl h⟩)))
      rcases k3' with h0 | h0
      · rw [if_pos h0] at v1
        rw [h0] at k3
        (repeat (first | (exact v1) | (refine px_st rfl rfl ?_; simp only [px_wp, px_at, px_set, px_set2, px_clr, px_ldi, px_ldl, px_lda, px_i1, px_i2, px_l1, px_l2, px_il, px_a1, px_r1, px_r2, px_ir, px_vir, px_g, px_v1, px_v2, px_gf, px_pf, px_ps, px_ar, px_nth, px_upd, px_zero, px_dfl, px_put_self, px_put_ne, px_sw, nI_add, pk_mul, true_and, and_true, Nat.reduceAdd, Nat.reduceLT, Nat.reduceEqDiff, List.length_cons, List.length_nil, true_or, or_true, List.set_set, ne_eq, not_false_eq_true, Fin.isValue, Fin.val_zero, Fin.val_one, Fin.val_two, reduceCtorEq, Option.map_some, List.length_set, Nat.zero_lt_succ, Option.toList_some, Option.toList_none, List.cons_append, List.nil_append, px_b_2, IA, LA, BA, ZA, QA, PT, DR, TL, MC, CD, CC, false_and, or_false, false_or, nar_b, nar_0, nar_1, nar_y, h100, g_steps, h127, hF0, g_stepField, h129, k3]) | (refine ⟨_, rfl, by omega, ?_⟩) | (refine ⟨fun h => absurd h (nI_nlt (by omega) (by omega)), fun _ => ?_⟩) | (refine ⟨fun _ => ?_, fun h => absurd h (nI_nlt (by omega) (by omega))⟩) | (refine ⟨fun h => absurd (nI_lt (by omega) (by omega)) h, fun _ => ?_⟩) | (refine ⟨fun _ => ?_, fun h => absurd (nI_lt (by omega) (by omega)) h⟩) | (refine ⟨fun h => absurd ((nI_eq (by omega) (by omega)).mp h) (by omega), fun _ => ?_⟩) | (refine ⟨fun _ => ?_, fun h => absurd ((nI_eq (by omega) (by omega)).mp h) (by omega)⟩) | (refine ⟨fun h => absurd h (by decide), fun _ => ?_⟩) | (refine ⟨fun _ => ?_, fun h => absurd h (by decide)⟩) | (refine ⟨fun h => absurd rfl h, fun _ => ?_⟩) | (refine ⟨fun _ => ?_, fun h => absurd rfl h⟩)))
      · rw [if_neg (by omega)] at v1
        rw [h0] at k3
        (repeat (first | (exact v1) | (refine px_st rfl rfl ?_; simp only [px_wp, px_at, px_set, px_set2, px_clr, px_ldi, px_ldl, px_lda, px_i1, px_i2, px_l1, px_l2, px_il, px_a1, px_r1, px_r2, px_ir, px_vir, px_g, px_v1, px_v2, px_gf, px_pf, px_ps, px_ar, px_nth, px_upd, px_zero, px_dfl, px_put_self, px_put_ne, px_sw, nI_add, pk_mul, true_and, and_true, Nat.reduceAdd, Nat.reduceLT, Nat.reduceEqDiff, List.length_cons, List.length_nil, true_or, or_true, List.set_set, ne_eq, not_false_eq_true, Fin.isValue, Fin.val_zero, Fin.val_one, Fin.val_two, reduceCtorEq, Option.map_some, List.length_set, Nat.zero_lt_succ, Option.toList_some, Option.toList_none, List.cons_append, List.nil_append, px_b_2, IA, LA, BA, ZA, QA, PT, DR, TL, MC, CD, CC, false_and, or_false, false_or, nar_b, nar_0, nar_1, nar_y, h100, g_steps, h127, hF0, g_stepField, h129, k3]) | (refine ⟨_, rfl, by omega, ?_⟩) | (refine ⟨fun h => absurd h (nI_nlt (by omega) (by omega)), fun _ => ?_⟩) | (refine ⟨fun _ => ?_, fun h => absurd h (nI_nlt (by omega) (by omega))⟩) | (refine ⟨fun h => absurd (nI_lt (by omega) (by omega)) h, fun _ => ?_⟩) | (refine ⟨fun _ => ?_, fun h => absurd (nI_lt (by omega) (by omega)) h⟩) | (refine ⟨fun h => absurd ((nI_eq (by omega) (by omega)).mp h) (by omega), fun _ => ?_⟩) | (refine ⟨fun _ => ?_, fun h => absurd ((nI_eq (by omega) (by omega)).mp h) (by omega)⟩) | (refine ⟨fun h => absurd h (by decide), fun _ => ?_⟩) | (refine ⟨fun _ => ?_, fun h => absurd h (by decide)⟩) | (refine ⟨fun h => absurd rfl h, fun _ => ?_⟩) | (refine ⟨fun _ => ?_, fun h => absurd rfl h⟩)))
  have hd4 : nI node / nI 4 = nI (node / 4) := pk_div (by omega) (by omega) (by omega)
  have hr4'' : nI node - nI (node / 4 * 4) = nI (node % 4) := by rw [← pk_mul, ← hd4]; exact pk_rem (by omega) (by omega) (by omega)
  have h0 := key n 0 (node / 4) (node % 4) none (by omega) (by omega) (by omega) hT
  (repeat (first | (first | exact h0 | refine ⟨by decide, ?_⟩) | (refine px_st rfl rfl ?_; simp only [px_wp, px_at, px_set, px_set2, px_clr, px_ldi, px_ldl, px_lda, px_i1, px_i2, px_l1, px_l2, px_il, px_a1, px_r1, px_r2, px_ir, px_vir, px_g, px_v1, px_v2, px_gf, px_pf, px_ps, px_ar, px_nth, px_upd, px_zero, px_dfl, px_put_self, px_put_ne, px_sw, nI_add, pk_mul, true_and, and_true, Nat.reduceAdd, Nat.reduceLT, Nat.reduceEqDiff, List.length_cons, List.length_nil, true_or, or_true, List.set_set, ne_eq, not_false_eq_true, Fin.isValue, Fin.val_zero, Fin.val_one, Fin.val_two, reduceCtorEq, Option.map_some, List.length_set, Nat.zero_lt_succ, Option.toList_some, Option.toList_none, List.cons_append, List.nil_append, px_b_2, IA, LA, BA, ZA, QA, PT, DR, TL, MC, CD, CC, false_and, or_false, false_or, nar_b, nar_0, nar_1, nar_y, hd4, hr4'']) | (refine ⟨_, rfl, by omega, ?_⟩) | (refine ⟨fun h => absurd h (nI_nlt (by omega) (by omega)), fun _ => ?_⟩) | (refine ⟨fun _ => ?_, fun h => absurd h (nI_nlt (by omega) (by omega))⟩) | (refine ⟨fun h => absurd (nI_lt (by omega) (by omega)) h, fun _ => ?_⟩) | (refine ⟨fun _ => ?_, fun h => absurd (nI_lt (by omega) (by omega)) h⟩) | (refine ⟨fun h => absurd ((nI_eq (by omega) (by omega)).mp h) (by omega), fun _ => ?_⟩) | (refine ⟨fun _ => ?_, fun h => absurd ((nI_eq (by omega) (by omega)).mp h) (by omega)⟩) | (refine ⟨fun h => absurd h (by decide), fun _ => ?_⟩) | (refine ⟨fun _ => ?_, fun h => absurd h (by decide)⟩) | (refine ⟨fun h => absurd rfl h, fun _ => ?_⟩) | (refine ⟨fun _ => ?_, fun h => absurd rfl h⟩)))
end INF
