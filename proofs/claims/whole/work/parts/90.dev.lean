/-! the Model's shapes: the same numbers, written otherwise -/
theorem rp_modj {X i k a j : Nat} (ha : a < 2 ^ k) (h : i + k ≤ j) : rp X i k a % 2 ^ j = rp (X % 2 ^ j) i k a := by
  have h1 : dg X i k = dg (X % 2 ^ j) i k := dg_mod (i := j) (Nat.mod_mod _ _).symm h
  have h2 : rp (X % 2 ^ j) i k a < 2 ^ j := rp_b (md_lt X j) ha h
  have h3 := Nat.div_add_mod X (2 ^ j)
  have h4 : dg (X % 2 ^ j) i k * 2 ^ i ≤ X % 2 ^ j := Nat.le_trans (Nat.mul_le_mul_right _ (Nat.mod_le _ _)) (Nat.div_mul_le_self _ _)
  have e : rp X i k a = 2 ^ j * (X / 2 ^ j) + rp (X % 2 ^ j) i k a := by
    show X - dg X i k * 2 ^ i + a * 2 ^ i = 2 ^ j * (X / 2 ^ j) + (X % 2 ^ j - dg (X % 2 ^ j) i k * 2 ^ i + a * 2 ^ i)
    rw [h1]
    generalize dg (X % 2 ^ j) i k * 2 ^ i = D at h4 ⊢
    generalize 2 ^ j * (X / 2 ^ j) = Q at h3 ⊢
    omega
  rw [e, Nat.mul_add_mod, Nat.mod_eq_of_lt h2]
theorem rp_comm {n i k a j l b : Nat} (ha : a < 2 ^ k) (hb : b < 2 ^ l) (h : i + k ≤ j) : rp (rp n i k a) j l b = rp (rp n j l b) i k a := by
  have e1 : rp (rp n i k a) j l b / 2 ^ j = rp (rp n j l b) i k a / 2 ^ j := by
    rw [rp_hi (n := rp n j l b) ha h, dg_step (rp (rp n i k a) j l b) j l, dg_step (rp n j l b) j l, dg_at hb, dg_at hb, rp_top _ j l hb, rp_top _ j l hb, rp_hi ha (by omega)]
  have e2 : rp (rp n i k a) j l b % 2 ^ j = rp (rp n j l b) i k a % 2 ^ j := by
    rw [rp_mod, rp_modj ha h, rp_modj ha h, rp_mod]
  rw [← Nat.div_add_mod (rp (rp n i k a) j l b) (2 ^ j), ← Nat.div_add_mod (rp (rp n j l b) i k a) (2 ^ j), e1, e2]
/-- which variables hold such a one: a bit for each -/
def wq (n w v : Nat) : Nat := if dg n (2 * v) 2 = w then 1 else 0
def mkW (n w : Nat) : Nat := wq n w 0 + 2 * wq n w 1 + 4 * wq n w 2 + 8 * wq n w 3 + 16 * wq n w 4 + 32 * wq n w 5
theorem wq_le (n w v : Nat) : wq n w v ≤ 1 := by
  unfold wq
  split <;> omega
theorem mkW_lt (n w : Nat) : mkW n w < 64 := by
  have h0 := wq_le n w 0
  have h1 := wq_le n w 1
  have h2 := wq_le n w 2
  have h3 := wq_le n w 3
  have h4 := wq_le n w 4
  have h5 := wq_le n w 5
  unfold mkW
  omega
theorem mkW_bit {n w v : Nat} (hv : v < 6) : mkW n w / 2 ^ v % 2 = wq n w v := by
  have h0 := wq_le n w 0
  have h1 := wq_le n w 1
  have h2 := wq_le n w 2
  have h3 := wq_le n w 3
  have h4 := wq_le n w 4
  have h5 := wq_le n w 5
  unfold mkW
  rcases (show v = 0 ∨ v = 1 ∨ v = 2 ∨ v = 3 ∨ v = 4 ∨ v = 5 by omega) with rfl | rfl | rfl | rfl | rfl | rfl <;> omega
theorem wq_ho {n v a w u : Nat} (ha : a < 4) : wq (sHo n v a) w u = if u = v then (if a = w then 1 else 0) else wq n w u := by
  unfold wq
  rw [hd_ho ha]
  by_cases e : u = v
  · rw [if_pos e, if_pos e]
  · rw [if_neg e, if_neg e]
theorem mkW_ho {n v a w : Nat} (hv : v < 6) (ha : a < 4) : mkW (sHo n v a) w + wq n w v * 2 ^ v = mkW n w + (if a = w then 1 else 0) * 2 ^ v := by
  unfold mkW
  rw [wq_ho ha, wq_ho ha, wq_ho ha, wq_ho ha, wq_ho ha, wq_ho ha]
  generalize (if a = w then 1 else 0) = t
  rcases (show v = 0 ∨ v = 1 ∨ v = 2 ∨ v = 3 ∨ v = 4 ∨ v = 5 by omega) with rfl | rfl | rfl | rfl | rfl | rfl <;> simp <;> omega
theorem mkW_rp {n i k a w : Nat} (ha : a < 2 ^ k) (hi : 12 ≤ i) : mkW (rp n i k a) w = mkW n w := by
  have e : ∀ v, v < 6 → wq (rp n i k a) w v = wq n w v := fun v hv => by
    unfold wq
    rw [dg_rp ha (by omega)]
  unfold mkW
  rw [e 0 (by omega), e 1 (by omega), e 2 (by omega), e 3 (by omega), e 4 (by omega), e 5 (by omega)]
/-- the Model's number of a shape -/
def TM (p a b c e f g h i j : Nat) : Nat := p + a * 2 ^ 6 + b * 2 ^ 12 + c * 2 ^ 13 + e * 2 ^ 14 + f * 2 ^ 19 + g * 2 ^ 25 + h * 2 ^ 26 + i * 2 ^ 27 + j * 2 ^ 33
def TY' (y p : Nat) : Nat := TM p (mkW y 3) (dg y 14 1) (dg y 15 1) (dg y 17 5) (mkW y 1) (dg y 12 1) (dg y 16 1) (mkW y 2) (dg y 13 1)
def TS (y : Nat) : Nat := TY' y (dg y 22 9)
theorem TS_mv {y p : Nat} (hp : p < 512) : TS (sMv y p) = TY' y p := by
  have a : ∀ j l, j + l ≤ 22 → dg (sMv y p) j l = dg y j l := fun j l hj => dg_rp hp (Or.inl hj)
  unfold TS TY'
  rw [dg_at hp, mkW_rp hp (by omega), mkW_rp hp (by omega), mkW_rp hp (by omega), a 14 1 (by omega), a 15 1 (by omega), a 17 5 (by omega), a 12 1 (by omega), a 16 1 (by omega), a 13 1 (by omega)]
theorem dg_p {n : Nat} (hn : n < 2 ^ 28) : dg n 22 9 < 64 := by
  unfold dg
  omega
theorem TM_lt {p a b c e f g h i j : Nat} (hp : p < 64) (ha : a < 64) (hb : b < 2) (hc : c < 2) (he : e < 32) (hf : f < 64) (hg : g < 2) (hh : h < 2) (hi : i < 64) (hj : j < 2) : TM p a b c e f g h i j < 2 ^ 34 := by
  unfold TM
  omega
theorem TY_lt {y p : Nat} (hp : p < 64) : TY' y p < 2 ^ 34 := TM_lt hp (mkW_lt _ _) (dg_lt y 14 1) (dg_lt y 15 1) (dg_lt y 17 5) (mkW_lt _ _) (dg_lt y 12 1) (dg_lt y 16 1) (mkW_lt _ _) (dg_lt y 13 1)
theorem TM_inj {p a b c e f g h i j p' a' b' c' e' f' g' h' i' j' : Nat} (hp : p < 64) (ha : a < 64) (hb : b < 2) (hc : c < 2) (he : e < 32) (hf : f < 64) (hg : g < 2) (hh : h < 2) (hi : i < 64) (hj : j < 2) (hp' : p' < 64) (ha' : a' < 64) (hb' : b' < 2) (hc' : c' < 2) (he' : e' < 32) (hf' : f' < 64) (hg' : g' < 2) (hh' : h' < 2) (hi' : i' < 64) (hj' : j' < 2) (q : TM p a b c e f g h i j = TM p' a' b' c' e' f' g' h' i' j') : p = p' ∧ a = a' ∧ b = b' ∧ c = c' ∧ e = e' ∧ f = f' ∧ g = g' ∧ h = h' ∧ i = i' ∧ j = j' := by
  unfold TM at q
  omega
theorem TS_inj {n m : Nat} (hn : n < 2 ^ 28) (hm : m < 2 ^ 28) (h : TS n = TS m) : n = m := by
  obtain ⟨e1, e2, e3, e4, e5, e6, e7, e8, e9, e10⟩ := TM_inj (dg_p hn) (mkW_lt _ _) (dg_lt n 14 1) (dg_lt n 15 1) (dg_lt n 17 5) (mkW_lt _ _) (dg_lt n 12 1) (dg_lt n 16 1) (mkW_lt _ _) (dg_lt n 13 1) (dg_p hm) (mkW_lt _ _) (dg_lt m 14 1) (dg_lt m 15 1) (dg_lt m 17 5) (mkW_lt _ _) (dg_lt m 12 1) (dg_lt m 16 1) (mkW_lt _ _) (dg_lt m 13 1) h
  refine dg_ext (by omega) (by omega) (fun v hv => ?_) (fun v hv => ?_) e5 e1
  · have g : ∀ w, mkW n w = mkW m w → (dg n (2 * v) 2 = w ↔ dg m (2 * v) 2 = w) := fun w e => by
      have q1 := mkW_bit (n := n) (w := w) hv
      have q2 := mkW_bit (n := m) (w := w) hv
      rw [e, q2] at q1
      unfold wq at q1
      constructor
      · intro z
        rw [if_pos z] at q1
        by_cases z2 : dg m (2 * v) 2 = w
        · exact z2
        · rw [if_neg z2] at q1; cases q1
      · intro z
        rw [if_pos z] at q1
        by_cases z2 : dg n (2 * v) 2 = w
        · exact z2
        · rw [if_neg z2] at q1; cases q1
    have g1 := g 1 e6
    have g2 := g 2 e9
    have g3 := g 3 e2
    have l1 := dg_lt n (2 * v) 2
    have l2 := dg_lt m (2 * v) 2
    omega
  · rcases (show v = 0 ∨ v = 1 ∨ v = 2 ∨ v = 3 ∨ v = 4 by omega) with rfl | rfl | rfl | rfl | rfl
    · exact e7
    · exact e10
    · exact e3
    · exact e4
    · exact e8
/-! the machine's longs -/
theorem l_i (a : Nat) : (lN a).toInt32 = nI a := by
  apply Int32.toBitVec_inj.mp
  rw [Int64.toBitVec_toInt32, wb_tb]
  show BitVec.signExtend 32 (BitVec.ofNat 64 a) = BitVec.ofNat 32 a
  apply BitVec.eq_of_getLsbD_eq
  intro i hi
  rw [BitVec.getLsbD_signExtend, BitVec.getLsbD_ofNat, BitVec.getLsbD_ofNat, if_pos (show i < 64 by omega)]
  simp [hi, show i < 64 by omega]
theorem l_shr {a k : Nat} (ha : a < 2 ^ 62) (hk : k < 64) : lN a >>> ((nI k).toInt64 &&& 63) = lN (a / 2 ^ k) := by
  refine pf_shr ?_ ha
  rw [wb_c k hk, wb_tb, wb_sm k hk, BitVec.toNat_ofNat]
  omega
theorem l_fld {a k l : Nat} (ha : a < 2 ^ 62) (hk : k < 64) (hl : l < 64) : lN a >>> ((nI k).toInt64 &&& 63) &&& lN (2 ^ l - 1) = lN (a / 2 ^ k % 2 ^ l) := by
  rw [l_shr ha hk, wb_mask (Nat.lt_of_le_of_lt (Nat.div_le_self _ _) (by omega)) hl]
/-- the Model's numbers are those of a shape -/
def mY (m : Nat → Int32) (y : Nat) : Prop := m 12 = nI (mkW y 3) ∧ m 13 = nI (dg y 14 1) ∧ m 14 = nI (dg y 15 1) ∧ m 15 = nI (dg y 17 5) ∧ m 16 = nI (mkW y 1) ∧ m 17 = nI (dg y 12 1) ∧ m 18 = nI (dg y 16 1) ∧ m 19 = nI (mkW y 2) ∧ m 20 = nI (dg y 13 1)
theorem up_e {m : Nat → Int32} {k j : Nat} {v : Int32} : upd m k v j = if j = k then v else m j := rfl
section MDA
variable {G : px_G} {ph : List px_E} {d : Nat} {Q : Option Value → List px_E → Prop} {m : Nat → Int32} {y v : Nat}
set_option maxRecDepth 100000 in
set_option maxHeartbeats 4000000 in
theorem c_N_load (h100 : ph[100]? = some (MD m)) (hy : y < 2 ^ 28) (hQ : ∀ m', mY m' y → m' 11 = nI (dg y 22 9) → (∀ i, i < 11 ∨ 20 < i → m' i = m i) → Q none (ph.set 100 (MD m'))) : px_Met G mX12_load d 0 0 [.ref 100, .long (lN (TS y))] ph Q := by
  have hp := dg_p hy
  have h3 := mkW_lt y 3
  have h1 := mkW_lt y 1
  have h2 := mkW_lt y 2
  have q14 := dg_lt y 14 1
  have q15 := dg_lt y 15 1
  have q17 := dg_lt y 17 5
  have q12 := dg_lt y 12 1
  have q16 := dg_lt y 16 1
  have q13 := dg_lt y 13 1
  have hT : TS y < 2 ^ 34 := TY_lt hp
  have hT2 : TS y < 2 ^ 62 := by omega
  have e0 : lN (TS y) &&& lN 63 = lN (dg y 22 9) := by
    rw [show (63 : Nat) = 2 ^ 6 - 1 from rfl, wb_mask (by omega) (by omega)]
    congr 1
    unfold TS TY' TM
    omega
  have f : ∀ k l, k < 64 → l < 64 → lN (TS y) >>> ((nI k).toInt64 &&& 63) &&& lN (2 ^ l - 1) = lN (TS y / 2 ^ k % 2 ^ l) := fun k l hk hl => l_fld hT2 hk hl
  have e1 : lN (TS y) >>> ((nI 6).toInt64 &&& 63) &&& lN 63 = lN (mkW y 3) := by
    rw [show (63 : Nat) = 2 ^ 6 - 1 from rfl, f 6 6 (by omega) (by omega)]
    congr 1
    unfold TS TY' TM
    omega
  have e2 : lN (TS y) >>> ((nI 12).toInt64 &&& 63) &&& lN 1 = lN (dg y 14 1) := by
    rw [show lN 1 = lN (2 ^ 1 - 1) from rfl, f 12 1 (by omega) (by omega)]
    congr 1
    unfold TS TY' TM
    omega
  have e3 : lN (TS y) >>> ((nI 13).toInt64 &&& 63) &&& lN 1 = lN (dg y 15 1) := by
    rw [show lN 1 = lN (2 ^ 1 - 1) from rfl, f 13 1 (by omega) (by omega)]
    congr 1
    unfold TS TY' TM
    omega
  have e4 : lN (TS y) >>> ((nI 14).toInt64 &&& 63) &&& lN 31 = lN (dg y 17 5) := by
    rw [show lN 31 = lN (2 ^ 5 - 1) from rfl, f 14 5 (by omega) (by omega)]
    congr 1
    unfold TS TY' TM
    omega
  have e5 : lN (TS y) >>> ((nI 19).toInt64 &&& 63) &&& lN 63 = lN (mkW y 1) := by
    rw [show (63 : Nat) = 2 ^ 6 - 1 from rfl, f 19 6 (by omega) (by omega)]
    congr 1
    unfold TS TY' TM
    omega
  have e6 : lN (TS y) >>> ((nI 25).toInt64 &&& 63) &&& lN 1 = lN (dg y 12 1) := by
    rw [show lN 1 = lN (2 ^ 1 - 1) from rfl, f 25 1 (by omega) (by omega)]
    congr 1
    unfold TS TY' TM
    omega
  have e7 : lN (TS y) >>> ((nI 26).toInt64 &&& 63) &&& lN 1 = lN (dg y 16 1) := by
    rw [show lN 1 = lN (2 ^ 1 - 1) from rfl, f 26 1 (by omega) (by omega)]
    congr 1
    unfold TS TY' TM
    omega
  have e8 : lN (TS y) >>> ((nI 27).toInt64 &&& 63) &&& lN 63 = lN (mkW y 2) := by
    rw [show (63 : Nat) = 2 ^ 6 - 1 from rfl, f 27 6 (by omega) (by omega)]
    congr 1
    unfold TS TY' TM
    omega
  have e9 : lN (TS y) >>> ((nI 33).toInt64 &&& 63) &&& lN 1 = lN (dg y 13 1) := by
    rw [show lN 1 = lN (2 ^ 1 - 1) from rfl, f 33 1 (by omega) (by omega)]
    congr 1
    unfold TS TY' TM
    omega
  clear f
  refine px_start kX12_load (Nat.le_of_ble_eq_true rfl) ?_
  show px_W G _ _ _ _ _ 0 0 0 [some (.ref 100), some (.long (lN (TS y))), none] [] ph
  (repeat (first | (refine px_st rfl rfl ?_; simp only [px_wp, px_at, px_set, px_set2, px_clr, px_ldi, px_ldl, px_lda, px_i1, px_i2, px_l1, px_l2, px_il, px_a1, px_r1, px_r2, px_ir, px_vir, px_g, px_v1, px_v2, px_gf, px_pf, px_ps, px_ar, px_nth, px_upd, px_zero, px_dfl, px_put_self, px_put_ne, px_sw, nI_add, pk_mul, true_and, and_true, Nat.reduceAdd, Nat.reduceLT, Nat.reduceEqDiff, List.length_cons, List.length_nil, true_or, or_true, List.set_set, ne_eq, not_false_eq_true, Fin.isValue, Fin.val_zero, Fin.val_one, Fin.val_two, reduceCtorEq, Option.map_some, List.length_set, Nat.zero_lt_succ, Option.toList_some, Option.toList_none, List.cons_append, List.nil_append, px_b_2, IA, LA, BA, ZA, QA, PT, DR, TL, MC, CD, CC, false_and, or_false, false_or, nar_b, nar_0, nar_1, nar_y, h100, e0, e1, e2, e3, e4, e5, e6, e7, e8, e9, l_i, p_place, p_others, p_othersBag, p_chosen, p_state, p_own, p_ownBag, p_likely, p_owner, p_ownerBag, md_len]) | (refine ⟨_, rfl, by omega, ?_⟩) | (refine ⟨fun h => absurd h (nI_nlt (by omega) (by omega)), fun _ => ?_⟩) | (refine ⟨fun _ => ?_, fun h => absurd h (nI_nlt (by omega) (by omega))⟩) | (refine ⟨fun h => absurd (nI_lt (by omega) (by omega)) h, fun _ => ?_⟩) | (refine ⟨fun _ => ?_, fun h => absurd (nI_lt (by omega) (by omega)) h⟩) | (refine ⟨fun h => absurd ((nI_eq (by omega) (by omega)).mp h) (by omega), fun _ => ?_⟩) | (refine ⟨fun _ => ?_, fun h => absurd ((nI_eq (by omega) (by omega)).mp h) (by omega)⟩) | (refine ⟨fun h => absurd h (by decide), fun _ => ?_⟩) | (refine ⟨fun _ => ?_, fun h => absurd h (by decide)⟩) | (refine ⟨fun h => absurd rfl h, fun _ => ?_⟩) | (refine ⟨fun _ => ?_, fun h => absurd rfl h⟩)))
  refine px_return rfl rfl (Nat.le_refl _) (Nat.le_refl _) ?_
  refine hQ _ ⟨rfl, rfl, rfl, rfl, rfl, rfl, rfl, rfl, rfl⟩ rfl (fun i hi => ?_)
  simp only [up_e]
  repeat rw [if_neg (by omega)]
/-- bits of a row of six -/
theorem tk_clr : ∀ a, a < 64 → ∀ v, v < 6 → nI a &&& ((nI 1 <<< (nI v &&& 31)) ^^^ (-1)) = nI (a - a / 2 ^ v % 2 * 2 ^ v) := by decide +kernel
theorem tk_set : ∀ a, a < 64 → ∀ v, v < 6 → nI a ||| (nI 1 <<< (nI v &&& 31)) = nI (a + (1 - a / 2 ^ v % 2) * 2 ^ v) := by decide +kernel
theorem tk_has : ∀ a, a < 64 → ∀ v, v < 6 → nI a >>> (nI v &&& 31) &&& nI 1 = nI (a / 2 ^ v % 2) := by decide +kernel
theorem tk_1 : ∀ v, v < 6 → nI 1 <<< (nI v &&& 31) = nI (2 ^ v) := by decide +kernel
theorem tk_0 {w : Nat} (hv : v < 6) (hw : 1 ≤ w) : nI (mkW y w) &&& ((nI 1 <<< (nI v &&& 31)) ^^^ (-1)) = nI (mkW (sHo y v 0) w) := by
  rw [tk_clr _ (mkW_lt _ _) v hv, mkW_bit hv]
  have h := mkW_ho (n := y) (a := 0) (w := w) hv (by omega)
  rw [if_neg (by omega)] at h
  congr 1
  omega
set_option maxRecDepth 100000 in
set_option maxHeartbeats 4000000 in
theorem c_N_take (h100 : ph[100]? = some (MD m)) (hv : v < 6) (hY : mY m y) (hQ : ∀ m', mY m' (sHo y v 0) → (∀ i, i < 12 ∨ 20 < i → m' i = m i) → Q none (ph.set 100 (MD m'))) : px_Met G mX12_take d 0 0 [.ref 100, .int (nI v)] ph Q := by
  obtain ⟨y2, y3, y4, y5, y6, y7, y8, y9, y10⟩ := hY
  have a : ∀ j l, 12 ≤ j → dg (sHo y v 0) j l = dg y j l := fun j l hj => dg_rp (by omega) (Or.inr (by omega))
  have e3 := tk_0 (y := y) (w := 3) hv (by omega)
  have e1 := tk_0 (y := y) (w := 1) hv (by omega)
  have e2 := tk_0 (y := y) (w := 2) hv (by omega)
  rw [← y2] at e3
  rw [← y6] at e1
  rw [← y9] at e2
  refine px_start kX12_take (Nat.le_of_ble_eq_true rfl) ?_
  show px_W G _ _ _ _ _ 0 0 0 [some (.ref 100), some (.int (nI v))] [] ph
  (repeat (first | (refine px_st rfl rfl ?_; simp only [px_wp, px_at, px_set, px_set2, px_clr, px_ldi, px_ldl, px_lda, px_i1, px_i2, px_l1, px_l2, px_il, px_a1, px_r1, px_r2, px_ir, px_vir, px_g, px_v1, px_v2, px_gf, px_pf, px_ps, px_ar, px_nth, px_upd, px_zero, px_dfl, px_put_self, px_put_ne, px_sw, nI_add, pk_mul, true_and, and_true, Nat.reduceAdd, Nat.reduceLT, Nat.reduceEqDiff, List.length_cons, List.length_nil, true_or, or_true, List.set_set, ne_eq, not_false_eq_true, Fin.isValue, Fin.val_zero, Fin.val_one, Fin.val_two, reduceCtorEq, Option.map_some, List.length_set, Nat.zero_lt_succ, Option.toList_some, Option.toList_none, List.cons_append, List.nil_append, px_b_2, IA, LA, BA, ZA, QA, PT, DR, TL, MC, CD, CC, false_and, or_false, false_or, nar_b, nar_0, nar_1, nar_y, h100, g_others, g_own, g_owner, p_others, p_own, p_owner, md_len, up_ne, e1, e2, e3]) | (refine ⟨_, rfl, by omega, ?_⟩) | (refine ⟨fun h => absurd h (nI_nlt (by omega) (by omega)), fun _ => ?_⟩) | (refine ⟨fun _ => ?_, fun h => absurd h (nI_nlt (by omega) (by omega))⟩) | (refine ⟨fun h => absurd (nI_lt (by omega) (by omega)) h, fun _ => ?_⟩) | (refine ⟨fun _ => ?_, fun h => absurd (nI_lt (by omega) (by omega)) h⟩) | (refine ⟨fun h => absurd ((nI_eq (by omega) (by omega)).mp h) (by omega), fun _ => ?_⟩) | (refine ⟨fun _ => ?_, fun h => absurd ((nI_eq (by omega) (by omega)).mp h) (by omega)⟩) | (refine ⟨fun h => absurd h (by decide), fun _ => ?_⟩) | (refine ⟨fun _ => ?_, fun h => absurd h (by decide)⟩) | (refine ⟨fun h => absurd rfl h, fun _ => ?_⟩) | (refine ⟨fun _ => ?_, fun h => absurd rfl h⟩)))
  refine px_return rfl rfl (Nat.le_refl _) (Nat.le_refl _) ?_
  refine hQ _ ⟨rfl, ?_, ?_, ?_, rfl, ?_, ?_, rfl, ?_⟩ (fun i hi => ?_)
  · rw [a 14 1 (by omega)]; exact y3
  · rw [a 15 1 (by omega)]; exact y4
  · rw [a 17 5 (by omega)]; exact y5
  · rw [a 12 1 (by omega)]; exact y7
  · rw [a 16 1 (by omega)]; exact y8
  · rw [a 13 1 (by omega)]; exact y10
  · simp only [up_e]
    repeat rw [if_neg (by omega)]
set_option maxRecDepth 100000 in
set_option maxHeartbeats 4000000 in
theorem c_N_has {a : Nat} (ha : a < 64) (hv : v < 6) (hQ : Q (some (.int (px_b (decide (a / 2 ^ v % 2 = 1))))) ph) : px_Met G mX12_has d 0 0 [.ref 100, .int (nI a), .int (nI v)] ph Q := by
  have e := tk_has a ha v hv
  refine px_start kX12_has (Nat.le_of_ble_eq_true rfl) ?_
  show px_W G _ _ _ _ _ 0 0 0 [some (.ref 100), some (.int (nI a)), some (.int (nI v))] [] ph
  by_cases h : a / 2 ^ v % 2 = 1
  · rw [decide_eq_true h] at hQ
    rw [h] at e
    (repeat (first | (refine px_st rfl rfl ?_; simp only [px_wp, px_at, px_set, px_set2, px_clr, px_ldi, px_ldl, px_lda, px_i1, px_i2, px_l1, px_l2, px_il, px_a1, px_r1, px_r2, px_ir, px_vir, px_g, px_v1, px_v2, px_gf, px_pf, px_ps, px_ar, px_nth, px_upd, px_zero, px_dfl, px_put_self, px_put_ne, px_sw, nI_add, pk_mul, true_and, and_true, Nat.reduceAdd, Nat.reduceLT, Nat.reduceEqDiff, List.length_cons, List.length_nil, true_or, or_true, List.set_set, ne_eq, not_false_eq_true, Fin.isValue, Fin.val_zero, Fin.val_one, Fin.val_two, reduceCtorEq, Option.map_some, List.length_set, Nat.zero_lt_succ, Option.toList_some, Option.toList_none, List.cons_append, List.nil_append, px_b_2, IA, LA, BA, ZA, QA, PT, DR, TL, MC, CD, CC, false_and, or_false, false_or, nar_b, nar_0, nar_1, nar_y, e]) | (refine ⟨_, rfl, by omega, ?_⟩) | (refine ⟨fun h => absurd h (nI_nlt (by omega) (by omega)), fun _ => ?_⟩) | (refine ⟨fun _ => ?_, fun h => absurd h (nI_nlt (by omega) (by omega))⟩) | (refine ⟨fun h => absurd (nI_lt (by omega) (by omega)) h, fun _ => ?_⟩) | (refine ⟨fun _ => ?_, fun h => absurd (nI_lt (by omega) (by omega)) h⟩) | (refine ⟨fun h => absurd ((nI_eq (by omega) (by omega)).mp h) (by omega), fun _ => ?_⟩) | (refine ⟨fun _ => ?_, fun h => absurd ((nI_eq (by omega) (by omega)).mp h) (by omega)⟩) | (refine ⟨fun h => absurd h (by decide), fun _ => ?_⟩) | (refine ⟨fun _ => ?_, fun h => absurd h (by decide)⟩) | (refine ⟨fun h => absurd rfl h, fun _ => ?_⟩) | (refine ⟨fun _ => ?_, fun h => absurd rfl h⟩)))
    exact px_ireturn rfl (Or.inr ⟨rfl, Or.inr rfl⟩) (Nat.le_refl _) (Nat.le_refl _) hQ
  · rw [decide_eq_false h] at hQ
    rw [show a / 2 ^ v % 2 = 0 by omega] at e
    (repeat (first | (refine px_st rfl rfl ?_; simp only [px_wp, px_at, px_set, px_set2, px_clr, px_ldi, px_ldl, px_lda, px_i1, px_i2, px_l1, px_l2, px_il, px_a1, px_r1, px_r2, px_ir, px_vir, px_g, px_v1, px_v2, px_gf, px_pf, px_ps, px_ar, px_nth, px_upd, px_zero, px_dfl, px_put_self, px_put_ne, px_sw, nI_add, pk_mul, true_and, and_true, Nat.reduceAdd, Nat.reduceLT, Nat.reduceEqDiff, List.length_cons, List.length_nil, true_or, or_true, List.set_set, ne_eq, not_false_eq_true, Fin.isValue, Fin.val_zero, Fin.val_one, Fin.val_two, reduceCtorEq, Option.map_some, List.length_set, Nat.zero_lt_succ, Option.toList_some, Option.toList_none, List.cons_append, List.nil_append, px_b_2, IA, LA, BA, ZA, QA, PT, DR, TL, MC, CD, CC, false_and, or_false, false_or, nar_b, nar_0, nar_1, nar_y, e]) | (refine ⟨_, rfl, by omega, ?_⟩) | (refine ⟨fun h => absurd h (nI_nlt (by omega) (by omega)), fun _ => ?_⟩) | (refine ⟨fun _ => ?_, fun h => absurd h (nI_nlt (by omega) (by omega))⟩) | (refine ⟨fun h => absurd (nI_lt (by omega) (by omega)) h, fun _ => ?_⟩) | (refine ⟨fun _ => ?_, fun h => absurd (nI_lt (by omega) (by omega)) h⟩) | (refine ⟨fun h => absurd ((nI_eq (by omega) (by omega)).mp h) (by omega), fun _ => ?_⟩) | (refine ⟨fun _ => ?_, fun h => absurd ((nI_eq (by omega) (by omega)).mp h) (by omega)⟩) | (refine ⟨fun h => absurd h (by decide), fun _ => ?_⟩) | (refine ⟨fun _ => ?_, fun h => absurd h (by decide)⟩) | (refine ⟨fun h => absurd rfl h, fun _ => ?_⟩) | (refine ⟨fun _ => ?_, fun h => absurd rfl h⟩)))
    exact px_ireturn rfl (Or.inr ⟨rfl, Or.inl rfl⟩) (Nat.le_refl _) (Nat.le_refl _) hQ
theorem or_bit3 {a b c v : Nat} : (a ||| b ||| c) / 2 ^ v % 2 = 1 ↔ (a / 2 ^ v % 2 = 1 ∨ b / 2 ^ v % 2 = 1 ∨ c / 2 ^ v % 2 = 1) := by
  have h : ∀ x : Nat, x / 2 ^ v % 2 = 1 ↔ x.testBit v = true := fun x => by rw [Nat.testBit_eq_decide_div_mod_eq, decide_eq_true_eq]
  rw [h, h, h, h, Nat.testBit_or, Nat.testBit_or, Bool.or_eq_true, Bool.or_eq_true]
  constructor
  · rintro ((q | q) | q)
    · exact Or.inl q
    · exact Or.inr (Or.inl q)
    · exact Or.inr (Or.inr q)
  · rintro (q | q | q)
    · exact Or.inl (Or.inl q)
    · exact Or.inl (Or.inr q)
    · exact Or.inr q
theorem wq_1 {w : Nat} : wq y w v = 1 ↔ sHd y v = w := by
  unfold wq
  split
  · rename_i h
    exact ⟨fun _ => h, fun _ => rfl⟩
  · rename_i h
    exact ⟨fun q => (by cases q), fun q => absurd q h⟩
set_option maxRecDepth 100000 in
set_option maxHeartbeats 4000000 in
theorem c_N_isNone (h100 : ph[100]? = some (MD m)) (hv : v < 6) (hY : mY m y) (hQ : Q (some (.int (px_b (decide (sHd y v = 0))))) ph) : px_Met G mX12_isNone (d + 1) 0 0 [.ref 100, .int (nI v)] ph Q := by
  obtain ⟨y2, y3, y4, y5, y6, y7, y8, y9, y10⟩ := hY
  have e1 : nI (mkW y 3) ||| nI (mkW y 1) ||| nI (mkW y 2) = nI (mkW y 3 ||| mkW y 1 ||| mkW y 2) := by rw [nx_or, nx_or]
  have hlt : mkW y 3 ||| mkW y 1 ||| mkW y 2 < 64 := Nat.or_lt_two_pow (n := 6) (Nat.or_lt_two_pow (n := 6) (mkW_lt _ _) (mkW_lt _ _)) (mkW_lt _ _)
  have hb : (mkW y 3 ||| mkW y 1 ||| mkW y 2) / 2 ^ v % 2 = 1 ↔ ¬ sHd y v = 0 := by
    rw [or_bit3, mkW_bit hv, mkW_bit hv, mkW_bit hv, wq_1, wq_1, wq_1]
    have := sHd_lt y v
    omega
  refine px_start kX12_isNone (Nat.le_of_ble_eq_true rfl) ?_
  show px_W G _ _ _ _ _ 0 0 0 [some (.ref 100), some (.int (nI v))] [] ph
  (repeat (first | (refine px_st rfl rfl ?_; simp only [px_wp, px_at, px_set, px_set2, px_clr, px_ldi, px_ldl, px_lda, px_i1, px_i2, px_l1, px_l2, px_il, px_a1, px_r1, px_r2, px_ir, px_vir, px_g, px_v1, px_v2, px_gf, px_pf, px_ps, px_ar, px_nth, px_upd, px_zero, px_dfl, px_put_self, px_put_ne, px_sw, nI_add, pk_mul, true_and, and_true, Nat.reduceAdd, Nat.reduceLT, Nat.reduceEqDiff, List.length_cons, List.length_nil, true_or, or_true, List.set_set, ne_eq, not_false_eq_true, Fin.isValue, Fin.val_zero, Fin.val_one, Fin.val_two, reduceCtorEq, Option.map_some, List.length_set, Nat.zero_lt_succ, Option.toList_some, Option.toList_none, List.cons_append, List.nil_append, px_b_2, IA, LA, BA, ZA, QA, PT, DR, TL, MC, CD, CC, false_and, or_false, false_or, nar_b, nar_0, nar_1, nar_y, h100, g_others, g_own, g_owner, y2, y6, y9]) | (refine ⟨_, rfl, by omega, ?_⟩) | (refine ⟨fun h => absurd h (nI_nlt (by omega) (by omega)), fun _ => ?_⟩) | (refine ⟨fun _ => ?_, fun h => absurd h (nI_nlt (by omega) (by omega))⟩) | (refine ⟨fun h => absurd (nI_lt (by omega) (by omega)) h, fun _ => ?_⟩) | (refine ⟨fun _ => ?_, fun h => absurd (nI_lt (by omega) (by omega)) h⟩) | (refine ⟨fun h => absurd ((nI_eq (by omega) (by omega)).mp h) (by omega), fun _ => ?_⟩) | (refine ⟨fun _ => ?_, fun h => absurd ((nI_eq (by omega) (by omega)).mp h) (by omega)⟩) | (refine ⟨fun h => absurd h (by decide), fun _ => ?_⟩) | (refine ⟨fun _ => ?_, fun h => absurd h (by decide)⟩) | (refine ⟨fun h => absurd rfl h, fun _ => ?_⟩) | (refine ⟨fun _ => ?_, fun h => absurd rfl h⟩)))
  rw [e1]
  refine px_cV rfl rfl kX12_has rfl (c_N_has (d := d) hlt hv ?_) (Nat.le_refl _) h100 rfl rfl rfl (Nat.le_of_ble_eq_true rfl) (Nat.zero_le _) (Nat.zero_le _)
  by_cases h0 : sHd y v = 0
  · rw [decide_eq_false (fun q => hb.mp q h0)]
    rw [decide_eq_true h0] at hQ
    (repeat (first | (refine px_st rfl rfl ?_; simp only [px_wp, px_at, px_set, px_set2, px_clr, px_ldi, px_ldl, px_lda, px_i1, px_i2, px_l1, px_l2, px_il, px_a1, px_r1, px_r2, px_ir, px_vir, px_g, px_v1, px_v2, px_gf, px_pf, px_ps, px_ar, px_nth, px_upd, px_zero, px_dfl, px_put_self, px_put_ne, px_sw, nI_add, pk_mul, true_and, and_true, Nat.reduceAdd, Nat.reduceLT, Nat.reduceEqDiff, List.length_cons, List.length_nil, true_or, or_true, List.set_set, ne_eq, not_false_eq_true, Fin.isValue, Fin.val_zero, Fin.val_one, Fin.val_two, reduceCtorEq, Option.map_some, List.length_set, Nat.zero_lt_succ, Option.toList_some, Option.toList_none, List.cons_append, List.nil_append, px_b_2, IA, LA, BA, ZA, QA, PT, DR, TL, MC, CD, CC, false_and, or_false, false_or, nar_b, nar_0, nar_1, nar_y]) | (refine ⟨_, rfl, by omega, ?_⟩) | (refine ⟨fun h => absurd h (nI_nlt (by omega) (by omega)), fun _ => ?_⟩) | (refine ⟨fun _ => ?_, fun h => absurd h (nI_nlt (by omega) (by omega))⟩) | (refine ⟨fun h => absurd (nI_lt (by omega) (by omega)) h, fun _ => ?_⟩) | (refine ⟨fun _ => ?_, fun h => absurd (nI_lt (by omega) (by omega)) h⟩) | (refine ⟨fun h => absurd ((nI_eq (by omega) (by omega)).mp h) (by omega), fun _ => ?_⟩) | (refine ⟨fun _ => ?_, fun h => absurd ((nI_eq (by omega) (by omega)).mp h) (by omega)⟩) | (refine ⟨fun h => absurd h (by decide), fun _ => ?_⟩) | (refine ⟨fun _ => ?_, fun h => absurd h (by decide)⟩) | (refine ⟨fun h => absurd rfl h, fun _ => ?_⟩) | (refine ⟨fun _ => ?_, fun h => absurd rfl h⟩)))
    exact px_ireturn rfl (Or.inr ⟨rfl, Or.inr rfl⟩) (Nat.le_refl _) (Nat.le_refl _) hQ
  · rw [decide_eq_true (hb.mpr h0)]
    rw [decide_eq_false h0] at hQ
    (repeat (first | (refine px_st rfl rfl ?_; simp only [px_wp, px_at, px_set, px_set2, px_clr, px_ldi, px_ldl, px_lda, px_i1, px_i2, px_l1, px_l2, px_il, px_a1, px_r1, px_r2, px_ir, px_vir, px_g, px_v1, px_v2, px_gf, px_pf, px_ps, px_ar, px_nth, px_upd, px_zero, px_dfl, px_put_self, px_put_ne, px_sw, nI_add, pk_mul, true_and, and_true, Nat.reduceAdd, Nat.reduceLT, Nat.reduceEqDiff, List.length_cons, List.length_nil, true_or, or_true, List.set_set, ne_eq, not_false_eq_true, Fin.isValue, Fin.val_zero, Fin.val_one, Fin.val_two, reduceCtorEq, Option.map_some, List.length_set, Nat.zero_lt_succ, Option.toList_some, Option.toList_none, List.cons_append, List.nil_append, px_b_2, IA, LA, BA, ZA, QA, PT, DR, TL, MC, CD, CC, false_and, or_false, false_or, nar_b, nar_0, nar_1, nar_y]) | (refine ⟨_, rfl, by omega, ?_⟩) | (refine ⟨fun h => absurd h (nI_nlt (by omega) (by omega)), fun _ => ?_⟩) | (refine ⟨fun _ => ?_, fun h => absurd h (nI_nlt (by omega) (by omega))⟩) | (refine ⟨fun h => absurd (nI_lt (by omega) (by omega)) h, fun _ => ?_⟩) | (refine ⟨fun _ => ?_, fun h => absurd (nI_lt (by omega) (by omega)) h⟩) | (refine ⟨fun h => absurd ((nI_eq (by omega) (by omega)).mp h) (by omega), fun _ => ?_⟩) | (refine ⟨fun _ => ?_, fun h => absurd ((nI_eq (by omega) (by omega)).mp h) (by omega)⟩) | (refine ⟨fun h => absurd h (by decide), fun _ => ?_⟩) | (refine ⟨fun _ => ?_, fun h => absurd h (by decide)⟩) | (refine ⟨fun h => absurd rfl h, fun _ => ?_⟩) | (refine ⟨fun _ => ?_, fun h => absurd rfl h⟩)))
    exact px_ireturn rfl (Or.inr ⟨rfl, Or.inl rfl⟩) (Nat.le_refl _) (Nat.le_refl _) hQ
set_option maxRecDepth 100000 in
set_option maxHeartbeats 4000000 in
theorem c_N_breaksAtEnd {mi sn : Nat} {fe : Nat → Int32} {en : Nat → Bool} (h100 : ph[100]? = some (MD m)) (hY : mY m y) (hmi : mi < 12) (hsn : sn ≤ 24) (h117 : ph[117]? = some (ZA 288 fe)) (hfe : ∀ u, u < sn → fe (24 * mi + u) = px_b (en u)) (hs : sSt y < sn) (hQ : Q (some (.int (px_b (xEnd en y)))) ph) : px_Met G mX12_breaksAtEnd d 0 0 [.ref 100, .int (nI mi)] ph Q := by
  obtain ⟨y2, y3, y4, y5, y6, y7, y8, y9, y10⟩ := hY
  have hs : dg y 17 5 < sn := hs
  have hf := hfe _ hs
  have hx := sEx_lt y 1
  unfold xEnd at hQ
  refine px_start kX12_breaksAtEnd (Nat.le_of_ble_eq_true rfl) ?_
  show px_W G _ _ _ _ _ 0 0 0 [some (.ref 100), some (.int (nI mi))] [] ph
  by_cases h1 : sEx y 1 = 1
  · rw [decide_eq_true h1, Bool.true_and] at hQ
    have y4 : m 14 = nI 1 := y4.trans (congrArg nI h1)
    cases hen : en (dg y 17 5) with
    | true =>
      rw [hen] at hQ hf
      (repeat (first | (refine ⟨by decide, ?_⟩) | (refine px_st rfl rfl ?_; simp only [px_wp, px_at, px_set, px_set2, px_clr, px_ldi, px_ldl, px_lda, px_i1, px_i2, px_l1, px_l2, px_il, px_a1, px_r1, px_r2, px_ir, px_vir, px_g, px_v1, px_v2, px_gf, px_pf, px_ps, px_ar, px_nth, px_upd, px_zero, px_dfl, px_put_self, px_put_ne, px_sw, nI_add, pk_mul, true_and, and_true, Nat.reduceAdd, Nat.reduceLT, Nat.reduceEqDiff, List.length_cons, List.length_nil, true_or, or_true, List.set_set, ne_eq, not_false_eq_true, Fin.isValue, Fin.val_zero, Fin.val_one, Fin.val_two, reduceCtorEq, Option.map_some, List.length_set, Nat.zero_lt_succ, Option.toList_some, Option.toList_none, List.cons_append, List.nil_append, px_b_2, IA, LA, BA, ZA, QA, PT, DR, TL, MC, CD, CC, false_and, or_false, false_or, nar_b, nar_0, nar_1, nar_y, h100, g_chosen, y4, g_isEnd, g_state, y5, h117]) | (refine ⟨_, rfl, by omega, ?_⟩) | (refine ⟨fun h => absurd h (nI_nlt (by omega) (by omega)), fun _ => ?_⟩) | (refine ⟨fun _ => ?_, fun h => absurd h (nI_nlt (by omega) (by omega))⟩) | (refine ⟨fun h => absurd (nI_lt (by omega) (by omega)) h, fun _ => ?_⟩) | (refine ⟨fun _ => ?_, fun h => absurd (nI_lt (by omega) (by omega)) h⟩) | (refine ⟨fun h => absurd ((nI_eq (by omega) (by omega)).mp h) (by omega), fun _ => ?_⟩) | (refine ⟨fun _ => ?_, fun h => absurd ((nI_eq (by omega) (by omega)).mp h) (by omega)⟩) | (refine ⟨fun h => absurd h (by decide), fun _ => ?_⟩) | (refine ⟨fun _ => ?_, fun h => absurd h (by decide)⟩) | (refine ⟨fun h => absurd rfl h, fun _ => ?_⟩) | (refine ⟨fun _ => ?_, fun h => absurd rfl h⟩)))
      rw [hf]
      (repeat (first | (refine px_st rfl rfl ?_; simp only [px_wp, px_at, px_set, px_set2, px_clr, px_ldi, px_ldl, px_lda, px_i1, px_i2, px_l1, px_l2, px_il, px_a1, px_r1, px_r2, px_ir, px_vir, px_g, px_v1, px_v2, px_gf, px_pf, px_ps, px_ar, px_nth, px_upd, px_zero, px_dfl, px_put_self, px_put_ne, px_sw, nI_add, pk_mul, true_and, and_true, Nat.reduceAdd, Nat.reduceLT, Nat.reduceEqDiff, List.length_cons, List.length_nil, true_or, or_true, List.set_set, ne_eq, not_false_eq_true, Fin.isValue, Fin.val_zero, Fin.val_one, Fin.val_two, reduceCtorEq, Option.map_some, List.length_set, Nat.zero_lt_succ, Option.toList_some, Option.toList_none, List.cons_append, List.nil_append, px_b_2, IA, LA, BA, ZA, QA, PT, DR, TL, MC, CD, CC, false_and, or_false, false_or, nar_b, nar_0, nar_1, nar_y]) | (refine ⟨_, rfl, by omega, ?_⟩) | (refine ⟨fun h => absurd h (nI_nlt (by omega) (by omega)), fun _ => ?_⟩) | (refine ⟨fun _ => ?_, fun h => absurd h (nI_nlt (by omega) (by omega))⟩) | (refine ⟨fun h => absurd (nI_lt (by omega) (by omega)) h, fun _ => ?_⟩) | (refine ⟨fun _ => ?_, fun h => absurd (nI_lt (by omega) (by omega)) h⟩) | (refine ⟨fun h => absurd ((nI_eq (by omega) (by omega)).mp h) (by omega), fun _ => ?_⟩) | (refine ⟨fun _ => ?_, fun h => absurd ((nI_eq (by omega) (by omega)).mp h) (by omega)⟩) | (refine ⟨fun h => absurd h (by decide), fun _ => ?_⟩) | (refine ⟨fun _ => ?_, fun h => absurd h (by decide)⟩) | (refine ⟨fun h => absurd rfl h, fun _ => ?_⟩) | (refine ⟨fun _ => ?_, fun h => absurd rfl h⟩)))
      exact px_ireturn rfl (Or.inr ⟨rfl, Or.inl rfl⟩) (Nat.le_refl _) (Nat.le_refl _) hQ
    | false =>
      rw [hen] at hQ hf
      (repeat (first | (refine ⟨by decide, ?_⟩) | (refine px_st rfl rfl ?_; simp only [px_wp, px_at, px_set, px_set2, px_clr, px_ldi, px_ldl, px_lda, px_i1, px_i2, px_l1, px_l2, px_il, px_a1, px_r1, px_r2, px_ir, px_vir, px_g, px_v1, px_v2, px_gf, px_pf, px_ps, px_ar, px_nth, px_upd, px_zero, px_dfl, px_put_self, px_put_ne, px_sw, nI_add, pk_mul, true_and, and_true, Nat.reduceAdd, Nat.reduceLT, Nat.reduceEqDiff, List.length_cons, List.length_nil, true_or, or_true, List.set_set, ne_eq, not_false_eq_true, Fin.isValue, Fin.val_zero, Fin.val_one, Fin.val_two, reduceCtorEq, Option.map_some, List.length_set, Nat.zero_lt_succ, Option.toList_some, Option.toList_none, List.cons_append, List.nil_append, px_b_2, IA, LA, BA, ZA, QA, PT, DR, TL, MC, CD, CC, false_and, or_false, false_or, nar_b, nar_0, nar_1, nar_y, h100, g_chosen, y4, g_isEnd, g_state, y5, h117]) | (refine ⟨_, rfl, by omega, ?_⟩) | (refine ⟨fun h => absurd h (nI_nlt (by omega) (by omega)), fun _ => ?_⟩) | (refine ⟨fun _ => ?_, fun h => absurd h (nI_nlt (by omega) (by omega))⟩) | (refine ⟨fun h => absurd (nI_lt (by omega) (by omega)) h, fun _ => ?_⟩) | (refine ⟨fun _ => ?_, fun h => absurd (nI_lt (by omega) (by omega)) h⟩) | (refine ⟨fun h => absurd ((nI_eq (by omega) (by omega)).mp h) (by omega), fun _ => ?_⟩) | (refine ⟨fun _ => ?_, fun h => absurd ((nI_eq (by omega) (by omega)).mp h) (by omega)⟩) | (refine ⟨fun h => absurd h (by decide), fun _ => ?_⟩) | (refine ⟨fun _ => ?_, fun h => absurd h (by decide)⟩) | (refine ⟨fun h => absurd rfl h, fun _ => ?_⟩) | (refine ⟨fun _ => ?_, fun h => absurd rfl h⟩)))
      rw [hf]
      (repeat (first | (refine px_st rfl rfl ?_; simp only [px_wp, px_at, px_set, px_set2, px_clr, px_ldi, px_ldl, px_lda, px_i1, px_i2, px_l1, px_l2, px_il, px_a1, px_r1, px_r2, px_ir, px_vir, px_g, px_v1, px_v2, px_gf, px_pf, px_ps, px_ar, px_nth, px_upd, px_zero, px_dfl, px_put_self, px_put_ne, px_sw, nI_add, pk_mul, true_and, and_true, Nat.reduceAdd, Nat.reduceLT, Nat.reduceEqDiff, List.length_cons, List.length_nil, true_or, or_true, List.set_set, ne_eq, not_false_eq_true, Fin.isValue, Fin.val_zero, Fin.val_one, Fin.val_two, reduceCtorEq, Option.map_some, List.length_set, Nat.zero_lt_succ, Option.toList_some, Option.toList_none, List.cons_append, List.nil_append, px_b_2, IA, LA, BA, ZA, QA, PT, DR, TL, MC, CD, CC, false_and, or_false, false_or, nar_b, nar_0, nar_1, nar_y]) | (refine ⟨_, rfl, by omega, ?_⟩) | (refine ⟨fun h => absurd h (nI_nlt (by omega) (by omega)), fun _ => ?_⟩) | (refine ⟨fun _ => ?_, fun h => absurd h (nI_nlt (by omega) (by omega))⟩) | (refine ⟨fun h => absurd (nI_lt (by omega) (by omega)) h, fun _ => ?_⟩) | (refine ⟨fun _ => ?_, fun h => absurd (nI_lt (by omega) (by omega)) h⟩) | (refine ⟨fun h => absurd ((nI_eq (by omega) (by omega)).mp h) (by omega), fun _ => ?_⟩) | (refine ⟨fun _ => ?_, fun h => absurd ((nI_eq (by omega) (by omega)).mp h) (by omega)⟩) | (refine ⟨fun h => absurd h (by decide), fun _ => ?_⟩) | (refine ⟨fun _ => ?_, fun h => absurd h (by decide)⟩) | (refine ⟨fun h => absurd rfl h, fun _ => ?_⟩) | (refine ⟨fun _ => ?_, fun h => absurd rfl h⟩)))
      exact px_ireturn rfl (Or.inr ⟨rfl, Or.inr rfl⟩) (Nat.le_refl _) (Nat.le_refl _) hQ
  · rw [decide_eq_false h1, Bool.false_and] at hQ
    have y4 : m 14 = nI 0 := y4.trans (congrArg nI (show sEx y 1 = 0 by omega))
    (repeat (first | (refine px_st rfl rfl ?_; simp only [px_wp, px_at, px_set, px_set2, px_clr, px_ldi, px_ldl, px_lda, px_i1, px_i2, px_l1, px_l2, px_il, px_a1, px_r1, px_r2, px_ir, px_vir, px_g, px_v1, px_v2, px_gf, px_pf, px_ps, px_ar, px_nth, px_upd, px_zero, px_dfl, px_put_self, px_put_ne, px_sw, nI_add, pk_mul, true_and, and_true, Nat.reduceAdd, Nat.reduceLT, Nat.reduceEqDiff, List.length_cons, List.length_nil, true_or, or_true, List.set_set, ne_eq, not_false_eq_true, Fin.isValue, Fin.val_zero, Fin.val_one, Fin.val_two, reduceCtorEq, Option.map_some, List.length_set, Nat.zero_lt_succ, Option.toList_some, Option.toList_none, List.cons_append, List.nil_append, px_b_2, IA, LA, BA, ZA, QA, PT, DR, TL, MC, CD, CC, false_and, or_false, false_or, nar_b, nar_0, nar_1, nar_y, h100, g_chosen, y4]) | (refine ⟨_, rfl, by omega, ?_⟩) | (refine ⟨fun h => absurd h (nI_nlt (by omega) (by omega)), fun _ => ?_⟩) | (refine ⟨fun _ => ?_, fun h => absurd h (nI_nlt (by omega) (by omega))⟩) | (refine ⟨fun h => absurd (nI_lt (by omega) (by omega)) h, fun _ => ?_⟩) | (refine ⟨fun _ => ?_, fun h => absurd (nI_lt (by omega) (by omega)) h⟩) | (refine ⟨fun h => absurd ((nI_eq (by omega) (by omega)).mp h) (by omega), fun _ => ?_⟩) | (refine ⟨fun _ => ?_, fun h => absurd ((nI_eq (by omega) (by omega)).mp h) (by omega)⟩) | (refine ⟨fun h => absurd h (by decide), fun _ => ?_⟩) | (refine ⟨fun _ => ?_, fun h => absurd h (by decide)⟩) | (refine ⟨fun h => absurd rfl h, fun _ => ?_⟩) | (refine ⟨fun _ => ?_, fun h => absurd rfl h⟩)))
    exact px_ireturn rfl (Or.inr ⟨rfl, Or.inl rfl⟩) (Nat.le_refl _) (Nat.le_refl _) hQ
end MDA
