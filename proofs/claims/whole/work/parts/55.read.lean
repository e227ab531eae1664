theorem aLp_lt {tx : Nat → Nat} {k : Nat} : ∀ m i s, aLp tx m i s = .inl k → i ≤ k ∧ k < i + m
  | 0, i, s, h => by cases h
  | m + 1, i, s, h => by
    unfold aLp at h
    by_cases h32 : tx i = 32
    · rw [if_pos h32] at h
      have := aLp_lt m (i + 1) s h
      omega
    · rw [if_neg h32] at h
      cases ht : aT (tx i) s with
      | none =>
        rw [ht] at h
        cases h
        omega
      | some s' =>
        rw [ht] at h
        have := aLp_lt m (i + 1) s' h
        omega
theorem f_neg {i : Nat} (h : i < 2 ^ 30) : (-10 : Int32) - nI i < nI 0 := by
  have h1 : ((-10 : Int32) - nI i).toInt = -10 - (i : Int) := by
    have h2 : (-10 : Int32) = -(nI 10) := by decide
    have h3 : (-10 : Int32) - nI i = -(nI (10 + i)) := by
      rw [h2, ← nI_add, Int32.neg_add, Int32.sub_eq_add_neg]
    rw [h3]
    have h4 : (nI (10 + i)).toInt = ((10 + i : Nat) : Int) := nI_toInt (by omega)
    rw [Int32.toInt_neg, h4, Int.bmod_eq_of_le (by omega) (by omega)]
    omega
  rw [Int32.lt_iff_toInt_lt, h1, nI_toInt (by omega)]
  omega
theorem f_ne0 {i : Nat} (h : i < 2 ^ 30) : ¬ (-10 : Int32) - nI i = nI 0 := fun q => by
  have := f_neg h
  rw [q] at this
  exact absurd this (by decide)
theorem iMod_mP {m0 : Nat → Int32} {F : Nat → PTt} {ha : Nat → Bool} {pl : Nat} {ip ir : Bool} {tk : Nat → Nat} {fl fh : Nat → Int64} {ph ph' : List px_E} (hN : iMod ph) (hf : fr FP ph ph') (h : mP m0 F ha pl ip ir tk fl fh ph') : iMod ph' := by
  obtain ⟨m, em, ha', tk', f1, f2, f3, f4, -, ⟨h105, h106, h107, h108, h109⟩, ⟨h110, h102, h103, h104⟩, v1, v2, v3⟩ := h
  obtain ⟨-, -, -, -, -, -, -, -, -, ⟨g1, n1⟩, ⟨g2, n2⟩, ⟨g3, n3⟩, ⟨g4, n4⟩, ⟨g5, n5⟩, ⟨g6, n6⟩, ⟨g7, n7⟩, ⟨g8, n8⟩⟩ := hN
  have k : ∀ q v, decide (100 ≤ q ∧ q ≤ 110 ∧ ¬ q = 101) = false → ph[q]? = some v → ph'[q]? = some v := fun q v a b => hf q v a b
  exact ⟨⟨_, h102⟩, ⟨_, h103⟩, ⟨_, h104⟩, ⟨em, h105, fun i hi => by rw [(v1 i hi).1]; exact px_b_2 _⟩, ⟨_, h106⟩, ⟨_, h107⟩, ⟨_, h108⟩, ⟨_, h109⟩, ⟨ha', h110, fun i hi => by rw [v2 i hi]; exact px_b_2 _⟩, ⟨g1, k _ _ rfl n1⟩, ⟨g2, k _ _ rfl n2⟩, ⟨g3, k _ _ rfl n3⟩, ⟨g4, k _ _ rfl n4⟩, ⟨g5, k _ _ rfl n5⟩, ⟨g6, k _ _ rfl n6⟩, ⟨g7, k _ _ rfl n7⟩, ⟨g8, k _ _ rfl n8⟩⟩
theorem FR_sub {gs hs : List Nat} {ph ph' : List px_E} (h : fr (FR gs) ph ph') (hs1 : ∀ g, gs.contains g = true → hs.contains g = true) : fr (FR hs) ph ph' := fr_mono h (fun k e p => by
  show gs.contains (grp k) = false
  have p : hs.contains (grp k) = false := p
  cases hq : gs.contains (grp k) with
  | false => rfl
  | true => rw [hs1 _ hq] at p; cases p)
theorem iRead_tH {ph : List px_E} {f9 f10 : Nat → Int64} {x : Int32} {pl : Nat} {rl rh : Int64} {sl sh : Nat → Int64} {c : Nat} {f ea : Nat → Int32} (h : iRead ph) : iRead (tH ((ph.set 9 (LA 24 f9)).set 10 (LA 24 f10)) x pl rl rh sl sh c f ea) := by
  obtain ⟨⟨r1, r2, r3, r4, h2⟩, ⟨fa, h3, h3'⟩, ⟨fb, h4, h4'⟩, hpt, ⟨p1, p2, p3, p4, p5, h5⟩, ⟨tk', h6⟩, ⟨fl, h7⟩, ⟨fh, h8⟩, ⟨g9, h9⟩, ⟨g10, h10⟩, ⟨g11, h11⟩, ⟨g12, h12⟩⟩ := h
  have e : ∀ q v, (13 ≤ q ∧ q < 35) ∨ (3 ≤ q ∧ q ≤ 8) → ph[q]? = some v → (tH ((ph.set 9 (LA 24 f9)).set 10 (LA 24 f10)) x pl rl rh sl sh c f ea)[q]? = some v := fun q v hq hv => by
    rw [px_put_ne (by omega), px_put_ne (by omega), px_put_ne (by omega), px_put_ne (by omega), px_put_ne (by omega), px_put_ne (by omega), px_put_ne (by omega), px_put_ne (by omega)]
    exact hv
  refine ⟨⟨_, _, _, _, show _ = some (RR x (nI pl) rl rh) from ?_⟩, ⟨fa, e _ _ (by omega) h3, h3'⟩, ⟨fb, e _ _ (by omega) h4, h4'⟩, fun i hi => ?_, ⟨p1, p2, p3, p4, p5, e _ _ (by omega) h5⟩, ⟨tk', e _ _ (by omega) h6⟩, ⟨fl, e _ _ (by omega) h7⟩, ⟨fh, e _ _ (by omega) h8⟩, ⟨f9, ?_⟩, ⟨f10, ?_⟩, ⟨sl, ?_⟩, ⟨sh, ?_⟩⟩
  rotate_left 1
  · obtain ⟨a, b, c, e', z, hh⟩ := hpt i hi
    exact ⟨a, b, c, e', z, e _ _ (by omega) hh⟩
  all_goals simp only [px_put_self, px_put_ne, h2, h9, h10, h11, h12, Nat.reduceEqDiff, not_false_eq_true, Option.map_some]
theorem iMod_w {ph : List px_E} {mm f re : Nat → Int32} {sl sh : Nat → Int64} (h : iMod ph) : iMod (wH ph mm f re sl sh) := by
  obtain ⟨⟨g1, n1⟩, ⟨g2, n2⟩, ⟨g3, n3⟩, ⟨g4, n4, n4'⟩, ⟨g5, n5⟩, ⟨g6, n6⟩, ⟨g7, n7⟩, ⟨g8, n8⟩, ⟨g9, n9, n9'⟩, ⟨g10, n10⟩, ⟨g11, n11⟩, ⟨g12, n12⟩, ⟨g13, n13⟩, ⟨g14, n14⟩, ⟨g15, n15⟩, ⟨g16, n16⟩, ⟨g17, n17⟩⟩ := h
  refine ⟨⟨g1, ?_⟩, ⟨g2, ?_⟩, ⟨g3, ?_⟩, ⟨g4, ?_, n4'⟩, ⟨g5, ?_⟩, ⟨g6, ?_⟩, ⟨g7, ?_⟩, ⟨g8, ?_⟩, ⟨g9, ?_, n9'⟩, ⟨f, ?_⟩, ⟨re, ?_⟩, ⟨sl, ?_⟩, ⟨sh, ?_⟩, ⟨g14, ?_⟩, ⟨g15, ?_⟩, ⟨g16, ?_⟩, ⟨g17, ?_⟩⟩
  all_goals simp only [px_put_self, px_put_ne, n1, n2, n3, n4, n5, n6, n7, n8, n9, n10, n11, n12, n13, n14, n15, n16, n17, Nat.reduceEqDiff, not_false_eq_true, Option.map_some]
theorem iMod_q {ph : List px_E} {w x nu so : Nat → Int32} (h : iMod ph) : iMod (qH ph w x nu so) := by
  obtain ⟨⟨g1, n1⟩, ⟨g2, n2⟩, ⟨g3, n3⟩, ⟨g4, n4, n4'⟩, ⟨g5, n5⟩, ⟨g6, n6⟩, ⟨g7, n7⟩, ⟨g8, n8⟩, ⟨g9, n9, n9'⟩, ⟨g10, n10⟩, ⟨g11, n11⟩, ⟨g12, n12⟩, ⟨g13, n13⟩, ⟨g14, n14⟩, ⟨g15, n15⟩, ⟨g16, n16⟩, ⟨g17, n17⟩⟩ := h
  refine ⟨⟨g1, ?_⟩, ⟨g2, ?_⟩, ⟨g3, ?_⟩, ⟨g4, ?_, n4'⟩, ⟨g5, ?_⟩, ⟨g6, ?_⟩, ⟨g7, ?_⟩, ⟨g8, ?_⟩, ⟨g9, ?_, n9'⟩, ⟨g10, ?_⟩, ⟨g11, ?_⟩, ⟨g12, ?_⟩, ⟨g13, ?_⟩, ⟨w, ?_⟩, ⟨x, ?_⟩, ⟨nu, ?_⟩, ⟨so, ?_⟩⟩
  all_goals simp only [px_put_self, px_put_ne, n1, n2, n3, n4, n5, n6, n7, n8, n9, n10, n11, n12, n13, n14, n15, n16, n17, Nat.reduceEqDiff, not_false_eq_true, Option.map_some]
theorem iMod_s {ph : List px_E} {mm fs fl fe w x nu so : Nat → Int32} (h : iMod ph) : iMod (sH ph mm fs fl fe w x nu so) := by
  obtain ⟨⟨g1, n1⟩, ⟨g2, n2⟩, ⟨g3, n3⟩, ⟨g4, n4, n4'⟩, ⟨g5, n5⟩, ⟨g6, n6⟩, ⟨g7, n7⟩, ⟨g8, n8⟩, ⟨g9, n9, n9'⟩, ⟨g10, n10⟩, ⟨g11, n11⟩, ⟨g12, n12⟩, ⟨g13, n13⟩, ⟨g14, n14⟩, ⟨g15, n15⟩, ⟨g16, n16⟩, ⟨g17, n17⟩⟩ := h
  refine ⟨⟨g1, ?_⟩, ⟨g2, ?_⟩, ⟨g3, ?_⟩, ⟨g4, ?_, n4'⟩, ⟨g5, ?_⟩, ⟨g6, ?_⟩, ⟨g7, ?_⟩, ⟨g8, ?_⟩, ⟨g9, ?_, n9'⟩, ⟨g10, ?_⟩, ⟨g11, ?_⟩, ⟨g12, ?_⟩, ⟨g13, ?_⟩, ⟨w, ?_⟩, ⟨x, ?_⟩, ⟨nu, ?_⟩, ⟨so, ?_⟩⟩
  all_goals simp only [px_put_self, px_put_ne, n1, n2, n3, n4, n5, n6, n7, n8, n9, n10, n11, n12, n13, n14, n15, n16, n17, Nat.reduceEqDiff, not_false_eq_true, Option.map_some]
theorem iDraft_tH {ph : List px_E} {f9 f10 : Nat → Int64} {x : Int32} {pl : Nat} {rl rh : Int64} {sl sh : Nat → Int64} {c : Nat} {f ea : Nat → Int32} (h : iDraft ph) : iDraft (tH ((ph.set 9 (LA 24 f9)).set 10 (LA 24 f10)) x pl rl rh sl sh c f ea) := by
  obtain ⟨⟨c0, h35⟩, ⟨f0, h36⟩, ⟨ea0, h37⟩, ⟨w0, h38⟩, ⟨x0, h39⟩, ⟨y0, h40⟩, ⟨na0, h41⟩, ⟨la0, h42⟩, ⟨lea0, h43⟩⟩ := h
  refine ⟨⟨c, ?_⟩, ⟨f, ?_⟩, ⟨ea, ?_⟩, ⟨w0, ?_⟩, ⟨x0, ?_⟩, ⟨y0, ?_⟩, ⟨na0, ?_⟩, ⟨la0, ?_⟩, ⟨lea0, ?_⟩⟩
  all_goals simp only [px_put_self, px_put_ne, h35, h36, h37, h38, h39, h40, h41, h42, h43, Nat.reduceEqDiff, not_false_eq_true, Option.map_some]
theorem aFin_1 {s : PS} : (aFin s).2.1 = s.2.1 ∧ (aFin s).2.2.1 = s.2.2.1 ∧ (aFin s).2.2.2.2.2.2.1 = s.2.2.2.2.2.2.1 := by
  have h := aEnd_1 (s := s)
  unfold aFin
  generalize aEnd s = S at h ⊢
  obtain ⟨ah, dp, pl, al, rw, pc, tk, fl, fh⟩ := S
  exact ⟨h.2.1, h.2.2.1, h.2.2.2⟩
section ORD
variable {G : px_G}
set_option maxRecDepth 100000 in
set_option maxHeartbeats 4000000 in
theorem op_read : OP G Inv mX11_read mX12_read [] := by
  intro ph hI
  have hI' := hI
  obtain ⟨t, mc, fd, sc, wl, rl, m, ⟨h0, h100⟩, ⟨e0, e5, e6, e7, e10⟩, iT, iR, iD, iM, iC, iK, iO, iS, iW, iN⟩ := hI
  have iM' := iM
  obtain ⟨hmc, fq, fs, fl0, fe0, h44, h115, h116, h117, hM⟩ := iM
  obtain ⟨ht, ft, gt, h1, h101, hTx⟩ := iT
  have hlen := Inv_len iW
  obtain ⟨tx, htx0⟩ : ∃ tx : Nat → Nat, tx = fun i => (gt i).toNatClampNeg := ⟨_, rfl⟩
  have htx : ∀ i, i < t → ft i = nI (tx i) ∧ gt i = nI (tx i) ∧ 32 ≤ tx i ∧ tx i ≤ 126 := fun i hi => by
    obtain ⟨z1, n, z2, z3, z4⟩ := hTx i hi
    have hn : tx i = n := by rw [htx0]; show (gt i).toNatClampNeg = n; rw [z4]; exact nI_clamp (by omega)
    rw [hn, z1, z4]
    exact ⟨rfl, rfl, z2, z3⟩
  have hf0 : fr (FR [0]) ph (ph.set 0 (XO 0 mc fd sc wl)) := fr_set fr_id rfl
  have k0 : (ph.set 0 (XO 0 mc fd sc wl))[0]? = some (XO 0 mc fd sc wl) := px_put_self.trans (by rw [h0]; rfl)
  have k1 := hf0 _ _ (FR_of rfl _ _ rfl) h1
  have kR := iR.fr hf0 (FR_of rfl)
  have kD := iD.fr hf0 (FR_of rfl)
  obtain ⟨al, rw, pc, tk, fl, fh, hP⟩ := c_R_parse (G := G) (d := 0) (ph := ph.set 0 (XO 0 mc fd sc wl)) ht k1 (fun i hi => ⟨(htx i hi).1, (htx i hi).2.2⟩) kR
  have k2 : ∃ a b c e, (ph.set 0 (XO 0 mc fd sc wl))[2]? = some (RR a b c e) := kR.1
  obtain ⟨ra, rb, rc, rd, k2⟩ := k2
  generalize hph0 : ph.set 0 (XO 0 mc fd sc wl) = ph0 at hf0 k0 k1 kR kD hP k2
  obtain ⟨T, hT⟩ : ∃ T, aLp tx t 0 (st0 al rw pc tk fl fh) = T := ⟨_, rfl⟩
  rw [hT] at hP
  -- what the Model's reading leaves
  have modp : ∀ (Z1 : List px_E) (Q : Option Value → List px_E → Prop), fr (FR [0, 2, 3, 4]) ph Z1 → (∀ i Z2, fr FP Z1 Z2 → (∃ F ha pl ip ir tk mfl mfh, mP m F ha pl ip ir tk mfl mfh Z2) → T = .inl i → Q (some (.int (nI i))) Z2) → (∀ s Z2, fr FP Z1 Z2 → (∃ F ha pl ip ir tk mfl mfh, mP m F ha pl ip ir tk mfl mfh Z2) → T = .inr s → 0 < s.2.1 → Q (some (.int (nI t))) Z2) → (∀ s Z2, fr FP Z1 Z2 → T = .inr s → s.2.1 = 0 → (∃ F ha ip ir mfl mfh, mP m F ha (aFin s).2.2.1 ip ir (aFin s).2.2.2.2.2.2.1 mfl mfh Z2 ∧ F 0 = (aFin s).2.2.2.1 0 ∧ ∀ i, i < (aFin s).2.2.1 → (aFin s).2.2.2.2.2.2.2.1 i = mfl i ∧ (aFin s).2.2.2.2.2.2.2.2 i = mfh i) → Q (some (.int (-2))) Z2) → px_Met G mX12_parse 5 0 0 [.ref 100] Z1 Q := by
    intro Z1 Q hf a1 a2 a3
    have z100 := hf _ _ (FR_of rfl _ _ rfl) h100
    have z101 := hf _ _ (FR_of rfl _ _ rfl) h101
    exact c_N_parse (d := 1) (al0 := al) (rw0 := rw) (pc0 := pc) (tk0 := tk) (fl0 := fl) (fh0 := fh) ht z101 (fun i hi => (htx i hi).2) e0 z100 (iN.fr hf (FR_of rfl)) (fun i Z2 b1 b2 b3 => a1 i Z2 b1 b2 (hT.symm.trans b3)) (fun s Z2 b1 b2 b3 b4 => a2 s Z2 b1 b2 (hT.symm.trans b3) b4) (fun s Z2 b1 b3 b4 b5 => a3 s Z2 b1 (hT.symm.trans b3) b4 b5)
  -- what holds in the end
  have inv1 : ∀ Z1 Zf mf mc', fr (FR [0, 2, 3, 4]) ph Z1 → Z1[0]? = some (XO 0 mc' fd sc wl) → iRead Z1 → iDraft Z1 → fr (FR [4, 10, 11]) Z1 Zf → iMach mc' Zf → iMod Zf → Zf[100]? = some (MD mf) → (mf 0 = nI 0 ∧ mf 5 = nI mc' ∧ mf 6 = m 6 ∧ mf 7 = m 7 ∧ mf 10 = m 10) → Inv Zf := by
    intro Z1 Zf mf mc' hf z0 zR zD hfa zM zN z100 hmf
    have hfb : fr (FR [0, 2, 3, 4, 10, 11]) ph Zf := fr_tr (FR_sub hf (fun g hg => by
      simp only [List.contains_cons, List.contains_nil, Bool.or_eq_true, beq_iff_eq, Bool.or_false] at hg ⊢
      omega)) (FR_sub hfa (fun g hg => by
      simp only [List.contains_cons, List.contains_nil, Bool.or_eq_true, beq_iff_eq, Bool.or_false] at hg ⊢
      omega))
    exact inv_mk (hfa _ _ (FR_of rfl _ _ rfl) z0) z100 ⟨hmf.1, hmf.2.1, hmf.2.2.1.trans e6, hmf.2.2.2.1.trans e7, hmf.2.2.2.2.trans e10⟩ ⟨⟨by omega, ft, gt, hfb _ _ (FR_of rfl _ _ rfl) h1, hfb _ _ (FR_of rfl _ _ rfl) h101, fun i hi => absurd hi (by omega)⟩, zR.fr hfa (FR_of rfl), zD.fr hfa (FR_of rfl), zM, iC.fr hfb (FR_of rfl), iK.fr hfb (FR_of rfl), iO.fr hfb (FR_of rfl), iS.fr hfb (FR_of rfl) (FR_dy rfl), iW.fr hfb (FR_of rfl), zN⟩
  have inv0 : ∀ Z1 Z2 m2, fr (FR [0, 2, 3, 4]) ph Z1 → Z1[0]? = some (XO 0 mc fd sc wl) → iRead Z1 → iDraft Z1 → iMach mc Z1 → fr FP Z1 Z2 → iMod Z2 → Z2[100]? = some (MD m2) → (∀ j, ¬ j = 1 → ¬ j = 2 → ¬ j = 3 → m2 j = m j) → Inv (Z2.set 100 (MD (upd m2 0 (nI 0)))) := by
    intro Z1 Z2 m2 hf z0 zR zD zM hf2 zN z100 hm2
    have hfa : fr (FR [10, 11]) Z1 (Z2.set 100 (MD (upd m2 0 (nI 0)))) := fr_set (FP_g hf2) rfl
    have hfa' : fr (FR [4, 10, 11]) Z1 (Z2.set 100 (MD (upd m2 0 (nI 0)))) := FR_sub hfa (fun g hg => by
      simp only [List.contains_cons, List.contains_nil, Bool.or_eq_true, beq_iff_eq, Bool.or_false] at hg ⊢
      omega)
    have hfc : fr (FR [10]) Z2 (Z2.set 100 (MD (upd m2 0 (nI 0)))) := fr_set fr_id rfl
    exact inv1 Z1 _ _ mc hf z0 zR zD hfa' (zM.fr hfa (FR_of rfl) (FR_sm rfl)) (zN.fr hfc (FR_of rfl)) (px_put_self.trans (by rw [z100]; rfl)) ⟨pk_us, (up_ne (by decide)).trans ((hm2 5 (by decide) (by decide) (by decide)).trans e5), (up_ne (by decide)).trans (hm2 6 (by decide) (by decide) (by decide)), (up_ne (by decide)).trans (hm2 7 (by decide) (by decide) (by decide)), (up_ne (by decide)).trans (hm2 10 (by decide) (by decide) (by decide))⟩
  -- a fault
  have flt : ∀ ph1 n, n < 2 ^ 30 → fr (FR [2]) ph0 ph1 → iRead ph1 → (∀ Q : Option Value → List px_E → Prop, (∀ Z2, fr FP ph1 Z2 → (∃ F ha pl ip ir tk mfl mfh, mP m F ha pl ip ir tk mfl mfh Z2) → Q (some (.int (nI n))) Z2) → px_Met G mX12_parse 5 0 0 [.ref 100] ph1 Q) → ∃ v, some (Value.int (-10 - nI n)) = some (Value.int v) ∧ (∃ fs, ph1[100]? = some (.inr (12, fs))) ∧ px_Met G mX12_read 6 10 30000 [.ref 100] ph1 (fun r2 ph'' => r2 = some (.int v) ∧ Inv ph'') := by
    intro ph1 n hn hf1 hR1 hpar
    have hfx : fr (FR [0, 2, 3, 4]) ph ph1 := fr_tr (FR_sub hf0 (fun g hg => by
      simp only [List.contains_cons, List.contains_nil, Bool.or_eq_true, beq_iff_eq, Bool.or_false] at hg ⊢
      omega)) (FR_sub hf1 (fun g hg => by
      simp only [List.contains_cons, List.contains_nil, Bool.or_eq_true, beq_iff_eq, Bool.or_false] at hg ⊢
      omega))
    have z100 := hfx _ _ (FR_of rfl _ _ rfl) h100
    refine ⟨_, rfl, ⟨_, z100⟩, ?_⟩
    refine px_start kX12_read (Nat.le_of_ble_eq_true rfl) ?_
    show px_W G _ _ _ _ _ 0 0 0 [some (.ref 100), none] [] ph1
    (repeat (first | (refine ⟨_, rfl, by omega, ?_⟩) | (refine px_st rfl rfl ?_; simp only [px_wp, px_at, px_set, px_set2, px_clr, px_ldi, px_ldl, px_lda, px_i1, px_i2, px_l1, px_l2, px_il, px_a1, px_r1, px_r2, px_ir, px_vir, px_g, px_v1, px_v2, px_gf, px_pf, px_ps, px_ar, px_nth, px_upd, px_zero, px_dfl, px_put_self, px_put_ne, px_sw, nI_add, pk_mul, true_and, and_true, Nat.reduceAdd, Nat.reduceLT, Nat.reduceEqDiff, List.length_cons, List.length_nil, true_or, or_true, List.set_set, ne_eq, not_false_eq_true, Fin.isValue, Fin.val_zero, Fin.val_one, Fin.val_two, reduceCtorEq, Option.map_some, List.length_set, Nat.zero_lt_succ, Option.toList_some, Option.toList_none, List.cons_append, List.nil_append, px_b_2, IA, LA, BA, ZA, QA, PT, DR, TL, MC, CD, CC, false_and, or_false, false_or, nar_b, nar_0, nar_1, nar_y])))
    refine px_cV rfl rfl kX12_parse rfl (hpar _ (fun Z2 hf2 hmp => ?_)) (Nat.le_refl _) z100 rfl rfl rfl (Nat.le_of_ble_eq_true rfl) (Nat.zero_le _) (Nat.zero_le _)
    obtain ⟨F, ha, pl, ip, ir, tk', mfl, mfh, hmp⟩ := hmp
    obtain ⟨m2, y100, -, -, -, hm2, -, -⟩ := mP_m hmp
    (repeat (first | (refine px_st rfl rfl ?_; simp only [px_wp, px_at, px_set, px_set2, px_clr, px_ldi, px_ldl, px_lda, px_i1, px_i2, px_l1, px_l2, px_il, px_a1, px_r1, px_r2, px_ir, px_vir, px_g, px_v1, px_v2, px_gf, px_pf, px_ps, px_ar, px_nth, px_upd, px_zero, px_dfl, px_put_self, px_put_ne, px_sw, nI_add, pk_mul, true_and, and_true, Nat.reduceAdd, Nat.reduceLT, Nat.reduceEqDiff, List.length_cons, List.length_nil, true_or, or_true, List.set_set, ne_eq, not_false_eq_true, Fin.isValue, Fin.val_zero, Fin.val_one, Fin.val_two, reduceCtorEq, Option.map_some, List.length_set, Nat.zero_lt_succ, Option.toList_some, Option.toList_none, List.cons_append, List.nil_append, px_b_2, IA, LA, BA, ZA, QA, PT, DR, TL, MC, CD, CC, false_and, or_false, false_or, nar_b, nar_0, nar_1, nar_y, y100, p_texted, md_len]) | (refine ⟨_, rfl, by omega, ?_⟩) | (refine ⟨fun h => absurd h (nI_nlt (by omega) (by omega)), fun _ => ?_⟩) | (refine ⟨fun _ => ?_, fun h => absurd h (nI_nlt (by omega) (by omega))⟩) | (refine ⟨fun h => absurd (nI_lt (by omega) (by omega)) h, fun _ => ?_⟩) | (refine ⟨fun _ => ?_, fun h => absurd (nI_lt (by omega) (by omega)) h⟩) | (refine ⟨fun h => absurd ((nI_eq (by omega) (by omega)).mp h) (by omega), fun _ => ?_⟩) | (refine ⟨fun _ => ?_, fun h => absurd ((nI_eq (by omega) (by omega)).mp h) (by omega)⟩) | (refine ⟨fun h => absurd h (by decide), fun _ => ?_⟩) | (refine ⟨fun _ => ?_, fun h => absurd h (by decide)⟩) | (refine ⟨fun h => absurd rfl h, fun _ => ?_⟩) | (refine ⟨fun _ => ?_, fun h => absurd rfl h⟩)))
    refine px_ireturn rfl (Or.inl rfl) (Nat.zero_le _) (Nat.zero_le _) ⟨rfl, ?_⟩
    exact inv0 ph1 Z2 m2 hfx (hf1 _ _ (FR_of rfl _ _ rfl) k0) hR1 (kD.fr hf1 (FR_of rfl)) ((iM'.fr hf0 (FR_of rfl) (FR_sm rfl)).fr hf1 (FR_of rfl) (FR_sm rfl)) hf2 (iMod_mP ((iN.fr hf0 (FR_of rfl)).fr hf1 (FR_of rfl)) hf2 hmp) y100 hm2
  refine px_start kX11_read (Nat.le_of_ble_eq_true rfl) ?_
  show px_W G _ _ _ _ _ 0 0 0 [some (.ref 0), none, none] [] ph
  (repeat (first | (refine px_st rfl rfl ?_; simp only [px_wp, px_at, px_set, px_set2, px_clr, px_ldi, px_ldl, px_lda, px_i1, px_i2, px_l1, px_l2, px_il, px_a1, px_r1, px_r2, px_ir, px_vir, px_g, px_v1, px_v2, px_gf, px_pf, px_ps, px_ar, px_nth, px_upd, px_zero, px_dfl, px_put_self, px_put_ne, px_sw, nI_add, pk_mul, true_and, and_true, Nat.reduceAdd, Nat.reduceLT, Nat.reduceEqDiff, List.length_cons, List.length_nil, true_or, or_true, List.set_set, ne_eq, not_false_eq_true, Fin.isValue, Fin.val_zero, Fin.val_one, Fin.val_two, reduceCtorEq, Option.map_some, List.length_set, Nat.zero_lt_succ, Option.toList_some, Option.toList_none, List.cons_append, List.nil_append, px_b_2, IA, LA, BA, ZA, QA, PT, DR, TL, MC, CD, CC, false_and, or_false, false_or, nar_b, nar_0, nar_1, nar_y, h0]) | (refine ⟨_, rfl, by omega, ?_⟩) | (refine ⟨fun h => absurd h (nI_nlt (by omega) (by omega)), fun _ => ?_⟩) | (refine ⟨fun _ => ?_, fun h => absurd h (nI_nlt (by omega) (by omega))⟩) | (refine ⟨fun h => absurd (nI_lt (by omega) (by omega)) h, fun _ => ?_⟩) | (refine ⟨fun _ => ?_, fun h => absurd (nI_lt (by omega) (by omega)) h⟩) | (refine ⟨fun h => absurd ((nI_eq (by omega) (by omega)).mp h) (by omega), fun _ => ?_⟩) | (refine ⟨fun _ => ?_, fun h => absurd ((nI_eq (by omega) (by omega)).mp h) (by omega)⟩) | (refine ⟨fun h => absurd h (by decide), fun _ => ?_⟩) | (refine ⟨fun _ => ?_, fun h => absurd h (by decide)⟩) | (refine ⟨fun h => absurd rfl h, fun _ => ?_⟩) | (refine ⟨fun _ => ?_, fun h => absurd rfl h⟩)))
  show px_W G _ _ _ _ _ _ _ _ _ _ (ph.set 0 (XO 0 mc fd sc wl))
  rw [hph0]
  refine px_cV rfl rfl kX8_parse rfl (hP _ (fun i ph1 hf1 hR1 hTi => ?_) (fun s ph1 hf1 hR1 hTs hdp => ?_) (fun s ph1 hf1 hw hTs hdp hpS => ?_)) (Nat.le_refl _) k2 rfl rfl rfl (Nat.le_of_ble_eq_true rfl) (Nat.zero_le _) (Nat.zero_le _)
  · have hi := aLp_lt _ _ _ (hT.trans hTi)
    have hne := f_ne0 (i := i) (by omega)
    have hfx : fr (FR [0, 2, 3, 4]) ph ph1 := fr_tr (FR_sub hf0 (fun g hg => by
      simp only [List.contains_cons, List.contains_nil, Bool.or_eq_true, beq_iff_eq, Bool.or_false] at hg ⊢
      omega)) (FR_sub hf1 (fun g hg => by
      simp only [List.contains_cons, List.contains_nil, Bool.or_eq_true, beq_iff_eq, Bool.or_false] at hg ⊢
      omega))
    have hfl := flt ph1 i (by omega) hf1 hR1 (fun Q hq => modp ph1 Q hfx (fun i' Z2 b1 b2 b3 => by
      rw [hTi] at b3
      cases b3
      exact hq Z2 b1 b2) (fun s Z2 b1 b2 b3 => by rw [hTi] at b3; cases b3) (fun s Z2 b1 b3 => by rw [hTi] at b3; cases b3))
    (repeat (first | (refine ⟨_, rfl, by omega, ?_⟩) | (refine px_st rfl rfl ?_; simp only [px_wp, px_at, px_set, px_set2, px_clr, px_ldi, px_ldl, px_lda, px_i1, px_i2, px_l1, px_l2, px_il, px_a1, px_r1, px_r2, px_ir, px_vir, px_g, px_v1, px_v2, px_gf, px_pf, px_ps, px_ar, px_nth, px_upd, px_zero, px_dfl, px_put_self, px_put_ne, px_sw, nI_add, pk_mul, true_and, and_true, Nat.reduceAdd, Nat.reduceLT, Nat.reduceEqDiff, List.length_cons, List.length_nil, true_or, or_true, List.set_set, ne_eq, not_false_eq_true, Fin.isValue, Fin.val_zero, Fin.val_one, Fin.val_two, reduceCtorEq, Option.map_some, List.length_set, Nat.zero_lt_succ, Option.toList_some, Option.toList_none, List.cons_append, List.nil_append, px_b_2, IA, LA, BA, ZA, QA, PT, DR, TL, MC, CD, CC, false_and, or_false, false_or, nar_b, nar_0, nar_1, nar_y])))
    refine ⟨fun q => absurd q hne, fun _ => ?_⟩
    (repeat (first | (refine ⟨_, rfl, by omega, ?_⟩) | (refine px_st rfl rfl ?_; simp only [px_wp, px_at, px_set, px_set2, px_clr, px_ldi, px_ldl, px_lda, px_i1, px_i2, px_l1, px_l2, px_il, px_a1, px_r1, px_r2, px_ir, px_vir, px_g, px_v1, px_v2, px_gf, px_pf, px_ps, px_ar, px_nth, px_upd, px_zero, px_dfl, px_put_self, px_put_ne, px_sw, nI_add, pk_mul, true_and, and_true, Nat.reduceAdd, Nat.reduceLT, Nat.reduceEqDiff, List.length_cons, List.length_nil, true_or, or_true, List.set_set, ne_eq, not_false_eq_true, Fin.isValue, Fin.val_zero, Fin.val_one, Fin.val_two, reduceCtorEq, Option.map_some, List.length_set, Nat.zero_lt_succ, Option.toList_some, Option.toList_none, List.cons_append, List.nil_append, px_b_2, IA, LA, BA, ZA, QA, PT, DR, TL, MC, CD, CC, false_and, or_false, false_or, nar_b, nar_0, nar_1, nar_y])))
    exact px_ireturn rfl (Or.inl rfl) (Nat.zero_le _) (Nat.zero_le _) hfl
  · have hne := f_ne0 (i := t) (by omega)
    have hfx : fr (FR [0, 2, 3, 4]) ph ph1 := fr_tr (FR_sub hf0 (fun g hg => by
      simp only [List.contains_cons, List.contains_nil, Bool.or_eq_true, beq_iff_eq, Bool.or_false] at hg ⊢
      omega)) (FR_sub hf1 (fun g hg => by
      simp only [List.contains_cons, List.contains_nil, Bool.or_eq_true, beq_iff_eq, Bool.or_false] at hg ⊢
      omega))
    have hfl := flt ph1 t (by omega) hf1 hR1 (fun Q hq => modp ph1 Q hfx (fun i' Z2 b1 b2 b3 => by rw [hTs] at b3; cases b3) (fun s' Z2 b1 b2 b3 b4 => hq Z2 b1 b2) (fun s' Z2 b1 b3 b4 => by
      rw [hTs] at b3
      cases b3
      omega))
    (repeat (first | (refine ⟨_, rfl, by omega, ?_⟩) | (refine px_st rfl rfl ?_; simp only [px_wp, px_at, px_set, px_set2, px_clr, px_ldi, px_ldl, px_lda, px_i1, px_i2, px_l1, px_l2, px_il, px_a1, px_r1, px_r2, px_ir, px_vir, px_g, px_v1, px_v2, px_gf, px_pf, px_ps, px_ar, px_nth, px_upd, px_zero, px_dfl, px_put_self, px_put_ne, px_sw, nI_add, pk_mul, true_and, and_true, Nat.reduceAdd, Nat.reduceLT, Nat.reduceEqDiff, List.length_cons, List.length_nil, true_or, or_true, List.set_set, ne_eq, not_false_eq_true, Fin.isValue, Fin.val_zero, Fin.val_one, Fin.val_two, reduceCtorEq, Option.map_some, List.length_set, Nat.zero_lt_succ, Option.toList_some, Option.toList_none, List.cons_append, List.nil_append, px_b_2, IA, LA, BA, ZA, QA, PT, DR, TL, MC, CD, CC, false_and, or_false, false_or, nar_b, nar_0, nar_1, nar_y])))
    refine ⟨fun q => absurd q hne, fun _ => ?_⟩
    (repeat (first | (refine ⟨_, rfl, by omega, ?_⟩) | (refine px_st rfl rfl ?_; simp only [px_wp, px_at, px_set, px_set2, px_clr, px_ldi, px_ldl, px_lda, px_i1, px_i2, px_l1, px_l2, px_il, px_a1, px_r1, px_r2, px_ir, px_vir, px_g, px_v1, px_v2, px_gf, px_pf, px_ps, px_ar, px_nth, px_upd, px_zero, px_dfl, px_put_self, px_put_ne, px_sw, nI_add, pk_mul, true_and, and_true, Nat.reduceAdd, Nat.reduceLT, Nat.reduceEqDiff, List.length_cons, List.length_nil, true_or, or_true, List.set_set, ne_eq, not_false_eq_true, Fin.isValue, Fin.val_zero, Fin.val_one, Fin.val_two, reduceCtorEq, Option.map_some, List.length_set, Nat.zero_lt_succ, Option.toList_some, Option.toList_none, List.cons_append, List.nil_append, px_b_2, IA, LA, BA, ZA, QA, PT, DR, TL, MC, CD, CC, false_and, or_false, false_or, nar_b, nar_0, nar_1, nar_y])))
    exact px_ireturn rfl (Or.inl rfl) (Nat.zero_le _) (Nat.zero_le _) hfl
  have hfx : fr (FR [0, 2, 3, 4]) ph ph1 := fr_tr (FR_sub hf0 (fun g hg => by
    simp only [List.contains_cons, List.contains_nil, Bool.or_eq_true, beq_iff_eq, Bool.or_false] at hg ⊢
    omega)) (FR_sub hf1 (fun g hg => by
    simp only [List.contains_cons, List.contains_nil, Bool.or_eq_true, beq_iff_eq, Bool.or_false] at hg ⊢
    omega))
  have hfin := aFin_1 (s := s)
  have hpl : (aFin s).2.2.1 ≤ 128 ∧ ∀ i, i < (aFin s).2.2.1 → (aFin s).2.2.2.2.2.2.1 i < 25 := by
    rw [hfin.2.1, hfin.2.2]
    obtain ⟨ah, dp, pl, al, rw, pc, tk, fl, fh⟩ := s
    exact ⟨hw.2.2.1, hw.2.2.2.1⟩
  have modG : ∀ (Z1 : List px_E) (Q : Option Value → List px_E → Prop), fr (FR [0, 2, 3, 4]) ph Z1 → (∀ Z2, fr FP Z1 Z2 → (∃ F ha ip ir mfl mfh, mP m F ha (aFin s).2.2.1 ip ir (aFin s).2.2.2.2.2.2.1 mfl mfh Z2 ∧ F 0 = (aFin s).2.2.2.1 0 ∧ ∀ i, i < (aFin s).2.2.1 → (aFin s).2.2.2.2.2.2.2.1 i = mfl i ∧ (aFin s).2.2.2.2.2.2.2.2 i = mfh i) → Q (some (.int (-2))) Z2) → px_Met G mX12_parse 5 0 0 [.ref 100] Z1 Q := fun Z1 Q hf hq => modp Z1 Q hf (fun i' Z2 b1 b2 b3 => by rw [hTs] at b3; cases b3) (fun s' Z2 b1 b2 b3 b4 => by
    rw [hTs] at b3
    cases b3
    omega) (fun s' Z2 b1 b3 b4 b5 => by
    rw [hTs] at b3
    cases b3
    exact hq Z2 b1 b5)
  generalize aFin s = S at hpS hpl modG
  clear hfin hw hdp hTs
  obtain ⟨ah, dp, pl, al1, rw1, pc1, tk1, fl1, fh1⟩ := S
  obtain ⟨hpl, htk25⟩ := hpl
  have hpl : pl ≤ 128 := hpl
  have htk25 : ∀ i, i < pl → tk1 i < 25 := htk25
  have hpC : pC dp pl al1 rw1 pc1 tk1 fl1 fh1 ph1 := hpS
  have hR1 := pC_read hpC
  have hD1 := kD.fr hf1 (FR_of rfl)
  have hM1 := (iM'.fr hf0 (FR_of rfl) (FR_sm rfl)).fr hf1 (FR_of rfl) (FR_sm rfl)
  have hN1 := (iN.fr hf0 (FR_of rfl)).fr hf1 (FR_of rfl)
  have j0 := hf1 _ _ (FR_of rfl _ _ rfl) k0
  -- the Model from its reading on
  have modR : ∀ (Z1 : List px_E) (v : Int32), fr (FR [0, 2, 3, 4]) ph Z1 → (∀ (Z2 : List px_E) (F : Nat → PTt) (ha : Nat → Bool) (ip ir : Bool) (mfl mfh : Nat → Int64) (m2 em ha' tk' : Nat → Int32) (f1 f2 f3 f4 : Nat → Int64), fr FP Z1 Z2 → iMod Z2 → (Z2[100]? = some (MD m2) ∧ m2 1 = nI pl ∧ m2 2 = px_b ip ∧ m2 3 = px_b ir ∧ ∀ j, ¬ j = 1 → ¬ j = 2 → ¬ j = 3 → m2 j = m j) → (Z2[105]? = some (ZA 40 em) ∧ Z2[106]? = some (LA 40 f1) ∧ Z2[107]? = some (LA 40 f2) ∧ Z2[108]? = some (LA 40 f3) ∧ Z2[109]? = some (LA 40 f4)) → (Z2[110]? = some (ZA 12 ha') ∧ Z2[102]? = some (IA 128 tk') ∧ Z2[103]? = some (LA 128 mfl) ∧ Z2[104]? = some (LA 128 mfh)) → (em 0 = px_b (al1 0).2.2.2.2 ∧ f1 0 = (al1 0).1 ∧ f2 0 = (al1 0).2.1 ∧ f3 0 = (al1 0).2.2.1 ∧ f4 0 = (al1 0).2.2.2.1) → (∀ i, i < pl → tk' i = tM (tk1 i)) → (∀ i, i < pl → fl1 i = mfl i ∧ fh1 i = mfh i) → px_W G mX12_read 6 10 30000 (fun r2 ph'' => r2 = some (.int v) ∧ Inv ph'') 0 0 19 [some (.ref 100), some (.int (-2))] [] (Z2.set 100 (MD (upd m2 0 (nI 0))))) → px_Met G mX12_read 6 10 30000 [.ref 100] Z1 (fun r2 ph'' => r2 = some (.int v) ∧ Inv ph'') := by
    intro Z1 v hf hgo
    have z100 := hf _ _ (FR_of rfl _ _ rfl) h100
    refine px_start kX12_read (Nat.le_of_ble_eq_true rfl) ?_
    show px_W G _ _ _ _ _ 0 0 0 [some (.ref 100), none] [] Z1
    (repeat (first | (refine ⟨_, rfl, by omega, ?_⟩) | (refine px_st rfl rfl ?_; simp only [px_wp, px_at, px_set, px_set2, px_clr, px_ldi, px_ldl, px_lda, px_i1, px_i2, px_l1, px_l2, px_il, px_a1, px_r1, px_r2, px_ir, px_vir, px_g, px_v1, px_v2, px_gf, px_pf, px_ps, px_ar, px_nth, px_upd, px_zero, px_dfl, px_put_self, px_put_ne, px_sw, nI_add, pk_mul, true_and, and_true, Nat.reduceAdd, Nat.reduceLT, Nat.reduceEqDiff, List.length_cons, List.length_nil, true_or, or_true, List.set_set, ne_eq, not_false_eq_true, Fin.isValue, Fin.val_zero, Fin.val_one, Fin.val_two, reduceCtorEq, Option.map_some, List.length_set, Nat.zero_lt_succ, Option.toList_some, Option.toList_none, List.cons_append, List.nil_append, px_b_2, IA, LA, BA, ZA, QA, PT, DR, TL, MC, CD, CC, false_and, or_false, false_or, nar_b, nar_0, nar_1, nar_y])))
    refine px_cV rfl rfl kX12_parse rfl (modG Z1 _ hf (fun Z2 hf2 hmp => ?_)) (Nat.le_refl _) z100 rfl rfl rfl (Nat.le_of_ble_eq_true rfl) (Nat.zero_le _) (Nat.zero_le _)
    obtain ⟨F, ha, ip, ir, mfl, mfh, hmp, hF0, hfl⟩ := hmp
    have zN := iMod_mP (iN.fr hf (FR_of rfl)) hf2 hmp
    obtain ⟨m2, em, ha', tk', f1, f2, f3, f4, b1, b2, b3, v1, v2, v3⟩ := hmp
    have hF0 : F 0 = al1 0 := hF0
    have v10 := v1 0 (by omega)
    rw [hF0] at v10
    have hg := hgo Z2 F ha ip ir mfl mfh m2 em ha' tk' f1 f2 f3 f4 hf2 zN b1 b2 b3 v10 v3 hfl
    (repeat (first | (exact hg) | (refine px_st rfl rfl ?_; simp only [px_wp, px_at, px_set, px_set2, px_clr, px_ldi, px_ldl, px_lda, px_i1, px_i2, px_l1, px_l2, px_il, px_a1, px_r1, px_r2, px_ir, px_vir, px_g, px_v1, px_v2, px_gf, px_pf, px_ps, px_ar, px_nth, px_upd, px_zero, px_dfl, px_put_self, px_put_ne, px_sw, nI_add, pk_mul, true_and, and_true, Nat.reduceAdd, Nat.reduceLT, Nat.reduceEqDiff, List.length_cons, List.length_nil, true_or, or_true, List.set_set, ne_eq, not_false_eq_true, Fin.isValue, Fin.val_zero, Fin.val_one, Fin.val_two, reduceCtorEq, Option.map_some, List.length_set, Nat.zero_lt_succ, Option.toList_some, Option.toList_none, List.cons_append, List.nil_append, px_b_2, IA, LA, BA, ZA, QA, PT, DR, TL, MC, CD, CC, false_and, or_false, false_or, nar_b, nar_0, nar_1, nar_y, b1.1, p_texted, md_len]) | (refine ⟨_, rfl, by omega, ?_⟩) | (refine ⟨fun h => absurd h (nI_nlt (by omega) (by omega)), fun _ => ?_⟩) | (refine ⟨fun _ => ?_, fun h => absurd h (nI_nlt (by omega) (by omega))⟩) | (refine ⟨fun h => absurd (nI_lt (by omega) (by omega)) h, fun _ => ?_⟩) | (refine ⟨fun _ => ?_, fun h => absurd (nI_lt (by omega) (by omega)) h⟩) | (refine ⟨fun h => absurd ((nI_eq (by omega) (by omega)).mp h) (by omega), fun _ => ?_⟩) | (refine ⟨fun _ => ?_, fun h => absurd ((nI_eq (by omega) (by omega)).mp h) (by omega)⟩) | (refine ⟨fun h => absurd h (by decide), fun _ => ?_⟩) | (refine ⟨fun _ => ?_, fun h => absurd h (by decide)⟩) | (refine ⟨fun h => absurd rfl h, fun _ => ?_⟩) | (refine ⟨fun _ => ?_, fun h => absurd rfl h⟩)))
  rcases Nat.lt_or_ge mc 12 with hmc12 | hmc12
  rotate_left
  · have hmc' : mc = 12 := by omega
    have hmod := modR ph1 (-3) hfx (fun Z2 F ha ip ir mfl mfh m2 em ha' tk' f1 f2 f3 f4 hf2 zN b1 b2 b3 b4 b5 b6 => by
      have y5 : upd m2 0 (nI 0) 5 = nI 12 := (up_ne (by decide)).trans ((b1.2.2.2.2 5 (by decide) (by decide) (by decide)).trans (by rw [e5, hmc']))
      have hin := inv0 ph1 Z2 m2 hfx j0 hR1 hD1 hM1 hf2 zN b1.1 b1.2.2.2.2
      (repeat (first | (refine px_st rfl rfl ?_; simp only [px_wp, px_at, px_set, px_set2, px_clr, px_ldi, px_ldl, px_lda, px_i1, px_i2, px_l1, px_l2, px_il, px_a1, px_r1, px_r2, px_ir, px_vir, px_g, px_v1, px_v2, px_gf, px_pf, px_ps, px_ar, px_nth, px_upd, px_zero, px_dfl, px_put_self, px_put_ne, px_sw, nI_add, pk_mul, true_and, and_true, Nat.reduceAdd, Nat.reduceLT, Nat.reduceEqDiff, List.length_cons, List.length_nil, true_or, or_true, List.set_set, ne_eq, not_false_eq_true, Fin.isValue, Fin.val_zero, Fin.val_one, Fin.val_two, reduceCtorEq, Option.map_some, List.length_set, Nat.zero_lt_succ, Option.toList_some, Option.toList_none, List.cons_append, List.nil_append, px_b_2, IA, LA, BA, ZA, QA, PT, DR, TL, MC, CD, CC, false_and, or_false, false_or, nar_b, nar_0, nar_1, nar_y, b1.1, g_machines, y5]) | (refine ⟨_, rfl, by omega, ?_⟩) | (refine ⟨fun h => absurd h (nI_nlt (by omega) (by omega)), fun _ => ?_⟩) | (refine ⟨fun _ => ?_, fun h => absurd h (nI_nlt (by omega) (by omega))⟩) | (refine ⟨fun h => absurd (nI_lt (by omega) (by omega)) h, fun _ => ?_⟩) | (refine ⟨fun _ => ?_, fun h => absurd (nI_lt (by omega) (by omega)) h⟩) | (refine ⟨fun h => absurd ((nI_eq (by omega) (by omega)).mp h) (by omega), fun _ => ?_⟩) | (refine ⟨fun _ => ?_, fun h => absurd ((nI_eq (by omega) (by omega)).mp h) (by omega)⟩) | (refine ⟨fun h => absurd h (by decide), fun _ => ?_⟩) | (refine ⟨fun _ => ?_, fun h => absurd h (by decide)⟩) | (refine ⟨fun h => absurd rfl h, fun _ => ?_⟩) | (refine ⟨fun _ => ?_, fun h => absurd rfl h⟩)))
      exact px_ireturn rfl (Or.inl rfl) (Nat.zero_le _) (Nat.zero_le _) ⟨rfl, hin⟩)
    have z100 := hfx _ _ (FR_of rfl _ _ rfl) h100
    subst hmc'
    (repeat (first | (refine px_st rfl rfl ?_; simp only [px_wp, px_at, px_set, px_set2, px_clr, px_ldi, px_ldl, px_lda, px_i1, px_i2, px_l1, px_l2, px_il, px_a1, px_r1, px_r2, px_ir, px_vir, px_g, px_v1, px_v2, px_gf, px_pf, px_ps, px_ar, px_nth, px_upd, px_zero, px_dfl, px_put_self, px_put_ne, px_sw, nI_add, pk_mul, true_and, and_true, Nat.reduceAdd, Nat.reduceLT, Nat.reduceEqDiff, List.length_cons, List.length_nil, true_or, or_true, List.set_set, ne_eq, not_false_eq_true, Fin.isValue, Fin.val_zero, Fin.val_one, Fin.val_two, reduceCtorEq, Option.map_some, List.length_set, Nat.zero_lt_succ, Option.toList_some, Option.toList_none, List.cons_append, List.nil_append, px_b_2, IA, LA, BA, ZA, QA, PT, DR, TL, MC, CD, CC, false_and, or_false, false_or, nar_b, nar_0, nar_1, nar_y, j0]) | (refine ⟨_, rfl, by omega, ?_⟩) | (refine ⟨fun h => absurd h (nI_nlt (by omega) (by omega)), fun _ => ?_⟩) | (refine ⟨fun _ => ?_, fun h => absurd h (nI_nlt (by omega) (by omega))⟩) | (refine ⟨fun h => absurd (nI_lt (by omega) (by omega)) h, fun _ => ?_⟩) | (refine ⟨fun _ => ?_, fun h => absurd (nI_lt (by omega) (by omega)) h⟩) | (refine ⟨fun h => absurd ((nI_eq (by omega) (by omega)).mp h) (by omega), fun _ => ?_⟩) | (refine ⟨fun _ => ?_, fun h => absurd ((nI_eq (by omega) (by omega)).mp h) (by omega)⟩) | (refine ⟨fun h => absurd h (by decide), fun _ => ?_⟩) | (refine ⟨fun _ => ?_, fun h => absurd h (by decide)⟩) | (refine ⟨fun h => absurd rfl h, fun _ => ?_⟩) | (refine ⟨fun _ => ?_, fun h => absurd rfl h⟩)))
    exact px_ireturn rfl (Or.inl rfl) (Nat.zero_le _) (Nat.zero_le _) ⟨_, rfl, ⟨_, z100⟩, hmod⟩
  obtain ⟨⟨rl0, rh0, c2⟩, ⟨fa, c3, c3'⟩, -, c13, -, -, ⟨tkA, c6, c6'⟩, c7, c8, ⟨e9, c9⟩, ⟨f10', c10⟩, ⟨s11, c11⟩, ⟨s12, c12⟩⟩ := hpC
  have c13' : ph1[13]? = some (ptE (al1 0)) := c13 0 (by omega)
  have hD1' := hD1
  obtain ⟨⟨c0, d35⟩, ⟨df, d36⟩, ⟨dea, d37⟩, ⟨w0, d38⟩, ⟨x0, d39⟩, ⟨y0, d40⟩, ⟨na0, d41⟩, ⟨la0, d42⟩, ⟨lea0, d43⟩⟩ := hD1
  obtain ⟨TS, hTS⟩ : ∃ TS, sS pl (al1 0) tk1 fl1 fh1 101 0 1 (fun _ => lN 0) (fun _ => lN 0) (fun _ => none) = TS := ⟨_, rfl⟩
  have hf03 : fr (FR [0, 2, 3]) ph ph1 := fr_tr (FR_sub hf0 (fun g hg => by
    simp only [List.contains_cons, List.contains_nil, Bool.or_eq_true, beq_iff_eq, Bool.or_false] at hg ⊢
    omega)) (FR_sub hf1 (fun g hg => by
    simp only [List.contains_cons, List.contains_nil, Bool.or_eq_true, beq_iff_eq, Bool.or_false] at hg ⊢
    omega))
  -- the Model's sets
  have modS : ∀ (Z1 : List px_E) (v : Int32), fr (FR [0, 2, 3, 4]) ph Z1 → (TS = none → ∀ (Z3 : List px_E) (mm : Nat → Int32), fr (FR [10, 11]) Z1 Z3 → iMod Z3 → Z3[100]? = some (MD mm) → (mm 0 = nI 0 ∧ mm 5 = nI mc ∧ mm 6 = m 6 ∧ mm 7 = m 7 ∧ mm 10 = m 10) → (v = -3 ∧ Inv Z3)) → (∀ c lo hi nx, TS = some (c, lo, hi, nx) → SI c 0 c nx → ∀ (Z3 : List px_E) (mm f re : Nat → Int32), fr (FR [10, 11]) Z1 Z3 → iMod Z3 → Z3[100]? = some (MD mm) → (mm 0 = nI 0 ∧ mm 4 = nI c ∧ mm 5 = nI mc ∧ mm 6 = m 6 ∧ mm 7 = m 7 ∧ mm 10 = m 10) → Z3[111]? = some (IA 2424 f) → Z3[112]? = some (ZA 101 re) → (∀ i, i < c → ∀ e, e < 24 → f (24 * i + e) = mnum (nx (i * 24 + e))) → (∀ i, i < c → re i = px_b (enS2 (al1 0) lo hi i)) → px_W G mX12_read 6 10 30000 (fun r2 ph'' => r2 = some (.int v) ∧ Inv ph'') 0 0 40 [some (.ref 100), some (.int (-2))] [] Z3) → px_Met G mX12_read 6 10 30000 [.ref 100] Z1 (fun r2 ph'' => r2 = some (.int v) ∧ Inv ph'') := by
    intro Z1 v hf hq1 hq2
    refine modR Z1 v hf (fun Z2 F ha ip ir mfl mfh m2 em ha' tk' f1 f2 f3 f4 hf2 zN b1 b2 b3 b4 b5 b6 => ?_)
    obtain ⟨y100, y1, y2, y3, y4⟩ := b1
    have y5 : upd m2 0 (nI 0) 5 = nI mc := (up_ne (by decide)).trans ((y4 5 (by decide) (by decide) (by decide)).trans e5)
    have zN0 := zN
    obtain ⟨-, -, -, -, -, -, -, -, -, ⟨g1, n1⟩, ⟨g2, n2⟩, ⟨g3, n3⟩, ⟨g4, n4⟩, -⟩ := zN
    have w100 : (Z2.set 100 (MD (upd m2 0 (nI 0))))[100]? = some (MD (upd m2 0 (nI 0))) := px_put_self.trans (by rw [y100]; rfl)
    have w : ∀ q v, ¬ q = 100 → Z2[q]? = some v → (Z2.set 100 (MD (upd m2 0 (nI 0))))[q]? = some v := fun q v a b => (px_put_ne (Ne.symm a)).trans b
    have hsq := sS_eq (a0 := al1 0) (tk := tk1) b6 101 0 1 (fun _ => lN 0) (fun _ => lN 0) (fun _ => none)
    have hfa : fr (FR [10, 11]) Z1 (Z2.set 100 (MD (upd m2 0 (nI 0)))) := fr_set (FP_g hf2) rfl
    have zN3 : iMod (Z2.set 100 (MD (upd m2 0 (nI 0)))) := zN0.fr (fr_set (gs := [10]) fr_id rfl) (FR_of rfl)
    (repeat (first | (refine px_st rfl rfl ?_; simp only [px_wp, px_at, px_set, px_set2, px_clr, px_ldi, px_ldl, px_lda, px_i1, px_i2, px_l1, px_l2, px_il, px_a1, px_r1, px_r2, px_ir, px_vir, px_g, px_v1, px_v2, px_gf, px_pf, px_ps, px_ar, px_nth, px_upd, px_zero, px_dfl, px_put_self, px_put_ne, px_sw, nI_add, pk_mul, true_and, and_true, Nat.reduceAdd, Nat.reduceLT, Nat.reduceEqDiff, List.length_cons, List.length_nil, true_or, or_true, List.set_set, ne_eq, not_false_eq_true, Fin.isValue, Fin.val_zero, Fin.val_one, Fin.val_two, reduceCtorEq, Option.map_some, List.length_set, Nat.zero_lt_succ, Option.toList_some, Option.toList_none, List.cons_append, List.nil_append, px_b_2, IA, LA, BA, ZA, QA, PT, DR, TL, MC, CD, CC, false_and, or_false, false_or, nar_b, nar_0, nar_1, nar_y, w100, g_machines, y5]) | (refine ⟨_, rfl, by omega, ?_⟩) | (refine ⟨fun h => absurd h (nI_nlt (by omega) (by omega)), fun _ => ?_⟩) | (refine ⟨fun _ => ?_, fun h => absurd h (nI_nlt (by omega) (by omega))⟩) | (refine ⟨fun h => absurd (nI_lt (by omega) (by omega)) h, fun _ => ?_⟩) | (refine ⟨fun _ => ?_, fun h => absurd (nI_lt (by omega) (by omega)) h⟩) | (refine ⟨fun h => absurd ((nI_eq (by omega) (by omega)).mp h) (by omega), fun _ => ?_⟩) | (refine ⟨fun _ => ?_, fun h => absurd ((nI_eq (by omega) (by omega)).mp h) (by omega)⟩) | (refine ⟨fun h => absurd h (by decide), fun _ => ?_⟩) | (refine ⟨fun _ => ?_, fun h => absurd h (by decide)⟩) | (refine ⟨fun h => absurd rfl h, fun _ => ?_⟩) | (refine ⟨fun _ => ?_, fun h => absurd rfl h⟩)))
    refine px_cV rfl rfl kX12_makeSets rfl (c_N_makeSets (d := 4) (a0 := al1 0) (tk := tk1) hpl (fun i hi => ⟨b5 i hi, htk25 i hi⟩) w100 ((up_ne (by decide)).trans y1) (w _ _ (by decide) b3.2.1) (w _ _ (by decide) b3.2.2.1) (w _ _ (by decide) b3.2.2.2) (w _ _ (by decide) b2.1) (w _ _ (by decide) b2.2.1) (w _ _ (by decide) b2.2.2.1) (w _ _ (by decide) b2.2.2.2.1) (w _ _ (by decide) b2.2.2.2.2) b4 (w _ _ (by decide) n1) (w _ _ (by decide) n2) (w _ _ (by decide) n3) (w _ _ (by decide) n4) (fun hn c f re sl sh => ?_) (fun c lo hi nx hs hSI f re sl sh hff hre => ?_)) (Nat.le_refl _) w100 rfl rfl rfl (Nat.le_of_ble_eq_true rfl) (Nat.zero_le _) (Nat.zero_le _)
    · rw [← hsq, hTS] at hn
      have hfz : fr (FR [10, 11]) Z1 (wH (Z2.set 100 (MD (upd m2 0 (nI 0)))) (upd (upd m2 0 (nI 0)) 4 (nI c)) f re sl sh) := fr_set (fr_set (fr_set (fr_set (fr_set hfa rfl) rfl) rfl) rfl) rfl
      have z100 : (wH (Z2.set 100 (MD (upd m2 0 (nI 0)))) (upd (upd m2 0 (nI 0)) 4 (nI c)) f re sl sh)[100]? = some (MD (upd (upd m2 0 (nI 0)) 4 (nI c))) := by
        simp only [px_put_self, px_put_ne, y100, Nat.reduceEqDiff, not_false_eq_true, Option.map_some]
      obtain ⟨r1, r2⟩ := hq1 hn _ _ hfz (iMod_w zN3) z100 ⟨(up_ne (by decide)).trans pk_us, (up_ne (by decide)).trans y5, (up_ne (by decide)).trans ((up_ne (by decide)).trans (y4 6 (by decide) (by decide) (by decide))), (up_ne (by decide)).trans ((up_ne (by decide)).trans (y4 7 (by decide) (by decide) (by decide))), (up_ne (by decide)).trans ((up_ne (by decide)).trans (y4 10 (by decide) (by decide) (by decide)))⟩
      (repeat (first | (refine px_st rfl rfl ?_; simp only [px_wp, px_at, px_set, px_set2, px_clr, px_ldi, px_ldl, px_lda, px_i1, px_i2, px_l1, px_l2, px_il, px_a1, px_r1, px_r2, px_ir, px_vir, px_g, px_v1, px_v2, px_gf, px_pf, px_ps, px_ar, px_nth, px_upd, px_zero, px_dfl, px_put_self, px_put_ne, px_sw, nI_add, pk_mul, true_and, and_true, Nat.reduceAdd, Nat.reduceLT, Nat.reduceEqDiff, List.length_cons, List.length_nil, true_or, or_true, List.set_set, ne_eq, not_false_eq_true, Fin.isValue, Fin.val_zero, Fin.val_one, Fin.val_two, reduceCtorEq, Option.map_some, List.length_set, Nat.zero_lt_succ, Option.toList_some, Option.toList_none, List.cons_append, List.nil_append, px_b_2, IA, LA, BA, ZA, QA, PT, DR, TL, MC, CD, CC, false_and, or_false, false_or, nar_b, nar_0, nar_1, nar_y]) | (refine ⟨_, rfl, by omega, ?_⟩) | (refine ⟨fun h => absurd h (nI_nlt (by omega) (by omega)), fun _ => ?_⟩) | (refine ⟨fun _ => ?_, fun h => absurd h (nI_nlt (by omega) (by omega))⟩) | (refine ⟨fun h => absurd (nI_lt (by omega) (by omega)) h, fun _ => ?_⟩) | (refine ⟨fun _ => ?_, fun h => absurd (nI_lt (by omega) (by omega)) h⟩) | (refine ⟨fun h => absurd ((nI_eq (by omega) (by omega)).mp h) (by omega), fun _ => ?_⟩) | (refine ⟨fun _ => ?_, fun h => absurd ((nI_eq (by omega) (by omega)).mp h) (by omega)⟩) | (refine ⟨fun h => absurd h (by decide), fun _ => ?_⟩) | (refine ⟨fun _ => ?_, fun h => absurd h (by decide)⟩) | (refine ⟨fun h => absurd rfl h, fun _ => ?_⟩) | (refine ⟨fun _ => ?_, fun h => absurd rfl h⟩)))
      exact px_ireturn rfl (Or.inl rfl) (Nat.zero_le _) (Nat.zero_le _) ⟨by rw [r1], r2⟩
    · rw [← hsq, hTS] at hs
      have hfz : fr (FR [10, 11]) Z1 (wH (Z2.set 100 (MD (upd m2 0 (nI 0)))) (upd (upd m2 0 (nI 0)) 4 (nI c)) f re sl sh) := fr_set (fr_set (fr_set (fr_set (fr_set hfa rfl) rfl) rfl) rfl) rfl
      have z100 : (wH (Z2.set 100 (MD (upd m2 0 (nI 0)))) (upd (upd m2 0 (nI 0)) 4 (nI c)) f re sl sh)[100]? = some (MD (upd (upd m2 0 (nI 0)) 4 (nI c))) := by
        simp only [px_put_self, px_put_ne, y100, Nat.reduceEqDiff, not_false_eq_true, Option.map_some]
      have z111 : (wH (Z2.set 100 (MD (upd m2 0 (nI 0)))) (upd (upd m2 0 (nI 0)) 4 (nI c)) f re sl sh)[111]? = some (IA 2424 f) := by
        simp only [px_put_self, px_put_ne, n1, Nat.reduceEqDiff, not_false_eq_true, Option.map_some]
      have z112 : (wH (Z2.set 100 (MD (upd m2 0 (nI 0)))) (upd (upd m2 0 (nI 0)) 4 (nI c)) f re sl sh)[112]? = some (ZA 101 re) := by
        simp only [px_put_self, px_put_ne, n2, Nat.reduceEqDiff, not_false_eq_true, Option.map_some]
      have hg := hq2 c lo hi nx hs hSI _ _ f re hfz (iMod_w zN3) z100 ⟨(up_ne (by decide)).trans pk_us, pk_us, (up_ne (by decide)).trans y5, (up_ne (by decide)).trans ((up_ne (by decide)).trans (y4 6 (by decide) (by decide) (by decide))), (up_ne (by decide)).trans ((up_ne (by decide)).trans (y4 7 (by decide) (by decide) (by decide))), (up_ne (by decide)).trans ((up_ne (by decide)).trans (y4 10 (by decide) (by decide) (by decide)))⟩ z111 z112 hff hre
      (repeat (first | (exact hg) | (refine px_st rfl rfl ?_; simp only [px_wp, px_at, px_set, px_set2, px_clr, px_ldi, px_ldl, px_lda, px_i1, px_i2, px_l1, px_l2, px_il, px_a1, px_r1, px_r2, px_ir, px_vir, px_g, px_v1, px_v2, px_gf, px_pf, px_ps, px_ar, px_nth, px_upd, px_zero, px_dfl, px_put_self, px_put_ne, px_sw, nI_add, pk_mul, true_and, and_true, Nat.reduceAdd, Nat.reduceLT, Nat.reduceEqDiff, List.length_cons, List.length_nil, true_or, or_true, List.set_set, ne_eq, not_false_eq_true, Fin.isValue, Fin.val_zero, Fin.val_one, Fin.val_two, reduceCtorEq, Option.map_some, List.length_set, Nat.zero_lt_succ, Option.toList_some, Option.toList_none, List.cons_append, List.nil_append, px_b_2, IA, LA, BA, ZA, QA, PT, DR, TL, MC, CD, CC, false_and, or_false, false_or, nar_b, nar_0, nar_1, nar_y]) | (refine ⟨_, rfl, by omega, ?_⟩) | (refine ⟨fun h => absurd h (nI_nlt (by omega) (by omega)), fun _ => ?_⟩) | (refine ⟨fun _ => ?_, fun h => absurd h (nI_nlt (by omega) (by omega))⟩) | (refine ⟨fun h => absurd (nI_lt (by omega) (by omega)) h, fun _ => ?_⟩) | (refine ⟨fun _ => ?_, fun h => absurd (nI_lt (by omega) (by omega)) h⟩) | (refine ⟨fun h => absurd ((nI_eq (by omega) (by omega)).mp h) (by omega), fun _ => ?_⟩) | (refine ⟨fun _ => ?_, fun h => absurd ((nI_eq (by omega) (by omega)).mp h) (by omega)⟩) | (refine ⟨fun h => absurd h (by decide), fun _ => ?_⟩) | (refine ⟨fun _ => ?_, fun h => absurd h (by decide)⟩) | (refine ⟨fun h => absurd rfl h, fun _ => ?_⟩) | (refine ⟨fun _ => ?_, fun h => absurd rfl h⟩)))
  (repeat (first | (refine px_st rfl rfl ?_; simp only [px_wp, px_at, px_set, px_set2, px_clr, px_ldi, px_ldl, px_lda, px_i1, px_i2, px_l1, px_l2, px_il, px_a1, px_r1, px_r2, px_ir, px_vir, px_g, px_v1, px_v2, px_gf, px_pf, px_ps, px_ar, px_nth, px_upd, px_zero, px_dfl, px_put_self, px_put_ne, px_sw, nI_add, pk_mul, true_and, and_true, Nat.reduceAdd, Nat.reduceLT, Nat.reduceEqDiff, List.length_cons, List.length_nil, true_or, or_true, List.set_set, ne_eq, not_false_eq_true, Fin.isValue, Fin.val_zero, Fin.val_one, Fin.val_two, reduceCtorEq, Option.map_some, List.length_set, Nat.zero_lt_succ, Option.toList_some, Option.toList_none, List.cons_append, List.nil_append, px_b_2, IA, LA, BA, ZA, QA, PT, DR, TL, MC, CD, CC, false_and, or_false, false_or, nar_b, nar_0, nar_1, nar_y, j0]) | (refine ⟨_, rfl, by omega, ?_⟩) | (refine ⟨fun h => absurd h (nI_nlt (by omega) (by omega)), fun _ => ?_⟩) | (refine ⟨fun _ => ?_, fun h => absurd h (nI_nlt (by omega) (by omega))⟩) | (refine ⟨fun h => absurd (nI_lt (by omega) (by omega)) h, fun _ => ?_⟩) | (refine ⟨fun _ => ?_, fun h => absurd (nI_lt (by omega) (by omega)) h⟩) | (refine ⟨fun h => absurd ((nI_eq (by omega) (by omega)).mp h) (by omega), fun _ => ?_⟩) | (refine ⟨fun _ => ?_, fun h => absurd ((nI_eq (by omega) (by omega)).mp h) (by omega)⟩) | (refine ⟨fun h => absurd h (by decide), fun _ => ?_⟩) | (refine ⟨fun _ => ?_, fun h => absurd h (by decide)⟩) | (refine ⟨fun h => absurd rfl h, fun _ => ?_⟩) | (refine ⟨fun _ => ?_, fun h => absurd rfl h⟩)))
  refine px_cV rfl rfl kX8_fill rfl (c_R_fill (d := 1) hpl (fun i hi => ⟨c6' i hi, htk25 i hi⟩) c2 c3 (c3' 0 (by omega)) c13' c6 c7 c8 c9 c10 c11 c12 d35 d36 d37 (fun hn f9 f10 rl rh sl sh c f ea => ?_) (fun c lo hi nx hs hSI f9 f10 rl rh sl sh f ea hff hea => ?_)) (Nat.le_refl _) c2 rfl rfl rfl (Nat.le_of_ble_eq_true rfl) (Nat.zero_le _) (Nat.zero_le _)
  · rw [hTS] at hn
    have hfY : fr (FR [0, 2, 3]) ph (tH ((ph1.set 9 (LA 24 f9)).set 10 (LA 24 f10)) (nI dp) pl rl rh sl sh c f ea) := fr_set (fr_set (fr_set (fr_set (fr_set (fr_set (fr_set (fr_set hf03 rfl) rfl) rfl) rfl) rfl) rfl) rfl) rfl
    have y0' : (tH ((ph1.set 9 (LA 24 f9)).set 10 (LA 24 f10)) (nI dp) pl rl rh sl sh c f ea)[0]? = some (XO 0 mc fd sc wl) := by
      simp only [px_put_ne, j0, Nat.reduceEqDiff, not_false_eq_true]
    have hRY := iRead_tH (f9 := f9) (f10 := f10) (x := nI dp) (pl := pl) (rl := rl) (rh := rh) (sl := sl) (sh := sh) (c := c) (f := f) (ea := ea) hR1
    have hDY := iDraft_tH (f9 := f9) (f10 := f10) (x := nI dp) (pl := pl) (rl := rl) (rh := rh) (sl := sl) (sh := sh) (c := c) (f := f) (ea := ea) hD1'
    generalize tH ((ph1.set 9 (LA 24 f9)).set 10 (LA 24 f10)) (nI dp) pl rl rh sl sh c f ea = Y at hfY y0' hRY hDY ⊢
    have hfY4 : fr (FR [0, 2, 3, 4]) ph Y := FR_sub hfY (fun g hg => by
      simp only [List.contains_cons, List.contains_nil, Bool.or_eq_true, beq_iff_eq, Bool.or_false] at hg ⊢
      omega)
    have z100 := hfY _ _ (FR_of rfl _ _ rfl) h100
    have hmod := modS Y (-3) hfY4 (fun _ Z3 mm hf3 zN3 y3 hmm => ⟨rfl, inv1 Y Z3 mm mc hfY4 y0' hRY hDY (FR_sub hf3 (fun g hg => by
      simp only [List.contains_cons, List.contains_nil, Bool.or_eq_true, beq_iff_eq, Bool.or_false] at hg ⊢
      omega)) ((iM'.fr hfY (FR_of rfl) (FR_sm rfl)).fr hf3 (FR_of rfl) (FR_sm rfl)) zN3 y3 hmm⟩) (fun c lo hi nx q => by rw [hn] at q; cases q)
    (repeat (first | (refine px_st rfl rfl ?_; simp only [px_wp, px_at, px_set, px_set2, px_clr, px_ldi, px_ldl, px_lda, px_i1, px_i2, px_l1, px_l2, px_il, px_a1, px_r1, px_r2, px_ir, px_vir, px_g, px_v1, px_v2, px_gf, px_pf, px_ps, px_ar, px_nth, px_upd, px_zero, px_dfl, px_put_self, px_put_ne, px_sw, nI_add, pk_mul, true_and, and_true, Nat.reduceAdd, Nat.reduceLT, Nat.reduceEqDiff, List.length_cons, List.length_nil, true_or, or_true, List.set_set, ne_eq, not_false_eq_true, Fin.isValue, Fin.val_zero, Fin.val_one, Fin.val_two, reduceCtorEq, Option.map_some, List.length_set, Nat.zero_lt_succ, Option.toList_some, Option.toList_none, List.cons_append, List.nil_append, px_b_2, IA, LA, BA, ZA, QA, PT, DR, TL, MC, CD, CC, false_and, or_false, false_or, nar_b, nar_0, nar_1, nar_y]) | (refine ⟨_, rfl, by omega, ?_⟩) | (refine ⟨fun h => absurd h (nI_nlt (by omega) (by omega)), fun _ => ?_⟩) | (refine ⟨fun _ => ?_, fun h => absurd h (nI_nlt (by omega) (by omega))⟩) | (refine ⟨fun h => absurd (nI_lt (by omega) (by omega)) h, fun _ => ?_⟩) | (refine ⟨fun _ => ?_, fun h => absurd (nI_lt (by omega) (by omega)) h⟩) | (refine ⟨fun h => absurd ((nI_eq (by omega) (by omega)).mp h) (by omega), fun _ => ?_⟩) | (refine ⟨fun _ => ?_, fun h => absurd ((nI_eq (by omega) (by omega)).mp h) (by omega)⟩) | (refine ⟨fun h => absurd h (by decide), fun _ => ?_⟩) | (refine ⟨fun _ => ?_, fun h => absurd h (by decide)⟩) | (refine ⟨fun h => absurd rfl h, fun _ => ?_⟩) | (refine ⟨fun _ => ?_, fun h => absurd rfl h⟩)))
    exact px_ireturn rfl (Or.inl rfl) (Nat.zero_le _) (Nat.zero_le _) ⟨_, rfl, ⟨_, z100⟩, hmod⟩
  rw [hTS] at hs
  have hc1 := hSI.1.1
  have hc100 := hSI.1.2
  have hB : NXB (fun i e => nx (i * 24 + e)) c := fun i hi e he j hj => hSI.2.1 i e he (Or.inl hi) j hj
  have hRC : RCH (fun i e => nx (i * 24 + e)) c := fun y h1 h2 => by
    obtain ⟨p, x, a, b, -, q⟩ := hSI.2.2 y h1 h2
    exact ⟨p, x, a, b, q⟩
  obtain ⟨N, kn, FI, hd, nb, b1, b2, b3, b4, b5, b6, b7⟩ := mk_both (enS2 (al1 0) lo hi) hB hc1 hc100
  have hfY : fr (FR [0, 2, 3]) ph (tH ((ph1.set 9 (LA 24 f9)).set 10 (LA 24 f10)) (nI dp) pl rl rh sl sh c f ea) := fr_set (fr_set (fr_set (fr_set (fr_set (fr_set (fr_set (fr_set hf03 rfl) rfl) rfl) rfl) rfl) rfl) rfl) rfl
  have y0' : (tH ((ph1.set 9 (LA 24 f9)).set 10 (LA 24 f10)) (nI dp) pl rl rh sl sh c f ea)[0]? = some (XO 0 mc fd sc wl) := by
    simp only [px_put_ne, j0, Nat.reduceEqDiff, not_false_eq_true]
  have hRY := iRead_tH (f9 := f9) (f10 := f10) (x := nI dp) (pl := pl) (rl := rl) (rh := rh) (sl := sl) (sh := sh) (c := c) (f := f) (ea := ea) hR1
  have g35 : (tH ((ph1.set 9 (LA 24 f9)).set 10 (LA 24 f10)) (nI dp) pl rl rh sl sh c f ea)[35]? = some (DR c) ∧ (tH ((ph1.set 9 (LA 24 f9)).set 10 (LA 24 f10)) (nI dp) pl rl rh sl sh c f ea)[36]? = some (IA 2400 f) ∧ (tH ((ph1.set 9 (LA 24 f9)).set 10 (LA 24 f10)) (nI dp) pl rl rh sl sh c f ea)[37]? = some (IA 100 ea) ∧ (tH ((ph1.set 9 (LA 24 f9)).set 10 (LA 24 f10)) (nI dp) pl rl rh sl sh c f ea)[38]? = some (IA 100 w0) ∧ (tH ((ph1.set 9 (LA 24 f9)).set 10 (LA 24 f10)) (nI dp) pl rl rh sl sh c f ea)[39]? = some (IA 100 x0) ∧ (tH ((ph1.set 9 (LA 24 f9)).set 10 (LA 24 f10)) (nI dp) pl rl rh sl sh c f ea)[40]? = some (IA 24 y0) ∧ (tH ((ph1.set 9 (LA 24 f9)).set 10 (LA 24 f10)) (nI dp) pl rl rh sl sh c f ea)[41]? = some (IA 24 na0) ∧ (tH ((ph1.set 9 (LA 24 f9)).set 10 (LA 24 f10)) (nI dp) pl rl rh sl sh c f ea)[42]? = some (IA 576 la0) ∧ (tH ((ph1.set 9 (LA 24 f9)).set 10 (LA 24 f10)) (nI dp) pl rl rh sl sh c f ea)[43]? = some (IA 24 lea0) := by
    refine ⟨?_, ?_, ?_, ?_, ?_, ?_, ?_, ?_, ?_⟩
    all_goals simp only [px_put_self, px_put_ne, d35, d36, d37, d38, d39, d40, d41, d42, d43, Nat.reduceEqDiff, not_false_eq_true, Option.map_some]
  have hlY : 153 ≤ (tH ((ph1.set 9 (LA 24 f9)).set 10 (LA 24 f10)) (nI dp) pl rl rh sl sh c f ea).length := by
    have := Inv_len (iW.fr hfY (FR_of rfl))
    exact this
  generalize tH ((ph1.set 9 (LA 24 f9)).set 10 (LA 24 f10)) (nI dp) pl rl rh sl sh c f ea = Y at hfY y0' hRY g35 hlY ⊢
  obtain ⟨y35, y36, y37, y38, y39, y40, y41, y42, y43⟩ := g35
  have y44 := hfY _ _ (FR_of rfl _ _ rfl) h44
  have hMY := iM'.fr hfY (FR_of rfl) (FR_sm rfl)
  (repeat (first | (refine px_st rfl rfl ?_; simp only [px_wp, px_at, px_set, px_set2, px_clr, px_ldi, px_ldl, px_lda, px_i1, px_i2, px_l1, px_l2, px_il, px_a1, px_r1, px_r2, px_ir, px_vir, px_g, px_v1, px_v2, px_gf, px_pf, px_ps, px_ar, px_nth, px_upd, px_zero, px_dfl, px_put_self, px_put_ne, px_sw, nI_add, pk_mul, true_and, and_true, Nat.reduceAdd, Nat.reduceLT, Nat.reduceEqDiff, List.length_cons, List.length_nil, true_or, or_true, List.set_set, ne_eq, not_false_eq_true, Fin.isValue, Fin.val_zero, Fin.val_one, Fin.val_two, reduceCtorEq, Option.map_some, List.length_set, Nat.zero_lt_succ, Option.toList_some, Option.toList_none, List.cons_append, List.nil_append, px_b_2, IA, LA, BA, ZA, QA, PT, DR, TL, MC, CD, CC, false_and, or_false, false_or, nar_b, nar_0, nar_1, nar_y, y0']) | (refine ⟨_, rfl, by omega, ?_⟩) | (refine ⟨fun h => absurd h (nI_nlt (by omega) (by omega)), fun _ => ?_⟩) | (refine ⟨fun _ => ?_, fun h => absurd h (nI_nlt (by omega) (by omega))⟩) | (refine ⟨fun h => absurd (nI_lt (by omega) (by omega)) h, fun _ => ?_⟩) | (refine ⟨fun _ => ?_, fun h => absurd (nI_lt (by omega) (by omega)) h⟩) | (refine ⟨fun h => absurd ((nI_eq (by omega) (by omega)).mp h) (by omega), fun _ => ?_⟩) | (refine ⟨fun _ => ?_, fun h => absurd ((nI_eq (by omega) (by omega)).mp h) (by omega)⟩) | (refine ⟨fun h => absurd h (by decide), fun _ => ?_⟩) | (refine ⟨fun _ => ?_, fun h => absurd h (by decide)⟩) | (refine ⟨fun h => absurd rfl h, fun _ => ?_⟩) | (refine ⟨fun _ => ?_, fun h => absurd rfl h⟩)))
  refine px_cVA rfl rfl kX3_least rfl (c_D_least (d := 1) (en := enS2 (al1 0) lo hi) (nx := fun i e => nx (i * 24 + e)) hc100 hc1 y35 y36 y37 y38 y39 y40 y41 y42 y43 (fun i hi e he => ⟨hff i hi e he, fun j hj => hB i hi e he j hj⟩) hea (fun hnone w x y => ?_) (fun gr fi hls kn' ln' le' hnm hkn1 hkn24 w x y na la lea w1 w2 hw1 hw2 => ?_)) (Nat.le_refl _) y35 rfl rfl rfl (Nat.le_of_ble_eq_true rfl) (by omega) (by omega)
  · -- too many states
    rcases b7 with ⟨-, b8, -⟩ | ⟨b7, b8, b9⟩
    · rw [b8] at hnone; cases hnone
    have hkn := b9 hRC
    have hfX : fr (FR [0, 2, 3]) ph (((Y.set 38 (IA 100 w)).set 39 (IA 100 x)).set 40 (IA 24 y)) := fr_set (fr_set (fr_set hfY rfl) rfl) rfl
    have hfYX : fr (FR [3]) Y (((Y.set 38 (IA 100 w)).set 39 (IA 100 x)).set 40 (IA 24 y)) := fr_set (fr_set (fr_set fr_id rfl) rfl) rfl
    have hDX : iDraft (((Y.set 38 (IA 100 w)).set 39 (IA 100 x)).set 40 (IA 24 y)) := by
      refine ⟨⟨c, ?_⟩, ⟨f, ?_⟩, ⟨ea, ?_⟩, ⟨w, ?_⟩, ⟨x, ?_⟩, ⟨y, ?_⟩, ⟨na0, ?_⟩, ⟨la0, ?_⟩, ⟨lea0, ?_⟩⟩
      all_goals simp only [px_put_self, px_put_ne, y35, y36, y37, y38, y39, y40, y41, y42, y43, Nat.reduceEqDiff, not_false_eq_true, Option.map_some]
    have x0' := hfYX _ _ (FR_of rfl _ _ rfl) y0'
    have hRX := hRY.fr hfYX (FR_of rfl)
    generalize ((Y.set 38 (IA 100 w)).set 39 (IA 100 x)).set 40 (IA 24 y) = X at hfX hfYX hDX x0' hRX ⊢
    refine px_cV rfl rfl kX11_keep rfl (c_keep_null (d := 5) ?_) (Nat.le_refl _) x0' rfl rfl rfl (Nat.le_of_ble_eq_true rfl) (by omega) (by omega)
    have hfX4 : fr (FR [0, 2, 3, 4]) ph X := FR_sub hfX (fun g hg => by
      simp only [List.contains_cons, List.contains_nil, Bool.or_eq_true, beq_iff_eq, Bool.or_false] at hg ⊢
      omega)
    have z100 := hfX _ _ (FR_of rfl _ _ rfl) h100
    have hmod := modS X (-3) hfX4 (fun q => by rw [hs] at q; cases q) (fun c2 lo2 hi2 nx2 q hSI2 Z3 mm f2 re2 hf3 zN3 z100 hmm z111 z112 hff2 hre2 => by
      rw [hs] at q
      cases q
      obtain ⟨mm0, mm4, mm5, mm6, mm7, mm10⟩ := hmm
      have zN4 := zN3
      obtain ⟨-, -, -, -, -, -, -, -, -, -, -, -, -, ⟨g5, n5⟩, ⟨g6, n6⟩, ⟨g7, n7⟩, ⟨g8, n8⟩⟩ := zN3
      have hfp : fr (FR [0, 2, 3, 10, 11]) ph Z3 := fr_tr (FR_sub hfX (fun g hg => by
        simp only [List.contains_cons, List.contains_nil, Bool.or_eq_true, beq_iff_eq, Bool.or_false] at hg ⊢
        omega)) (FR_sub hf3 (fun g hg => by
        simp only [List.contains_cons, List.contains_nil, Bool.or_eq_true, beq_iff_eq, Bool.or_false] at hg ⊢
        omega))
      (repeat (first | (refine px_st rfl rfl ?_; simp only [px_wp, px_at, px_set, px_set2, px_clr, px_ldi, px_ldl, px_lda, px_i1, px_i2, px_l1, px_l2, px_il, px_a1, px_r1, px_r2, px_ir, px_vir, px_g, px_v1, px_v2, px_gf, px_pf, px_ps, px_ar, px_nth, px_upd, px_zero, px_dfl, px_put_self, px_put_ne, px_sw, nI_add, pk_mul, true_and, and_true, Nat.reduceAdd, Nat.reduceLT, Nat.reduceEqDiff, List.length_cons, List.length_nil, true_or, or_true, List.set_set, ne_eq, not_false_eq_true, Fin.isValue, Fin.val_zero, Fin.val_one, Fin.val_two, reduceCtorEq, Option.map_some, List.length_set, Nat.zero_lt_succ, Option.toList_some, Option.toList_none, List.cons_append, List.nil_append, px_b_2, IA, LA, BA, ZA, QA, PT, DR, TL, MC, CD, CC, false_and, or_false, false_or, nar_b, nar_0, nar_1, nar_y]) | (refine ⟨_, rfl, by omega, ?_⟩) | (refine ⟨fun h => absurd h (nI_nlt (by omega) (by omega)), fun _ => ?_⟩) | (refine ⟨fun _ => ?_, fun h => absurd h (nI_nlt (by omega) (by omega))⟩) | (refine ⟨fun h => absurd (nI_lt (by omega) (by omega)) h, fun _ => ?_⟩) | (refine ⟨fun _ => ?_, fun h => absurd (nI_lt (by omega) (by omega)) h⟩) | (refine ⟨fun h => absurd ((nI_eq (by omega) (by omega)).mp h) (by omega), fun _ => ?_⟩) | (refine ⟨fun _ => ?_, fun h => absurd ((nI_eq (by omega) (by omega)).mp h) (by omega)⟩) | (refine ⟨fun h => absurd h (by decide), fun _ => ?_⟩) | (refine ⟨fun _ => ?_, fun h => absurd h (by decide)⟩) | (refine ⟨fun h => absurd rfl h, fun _ => ?_⟩) | (refine ⟨fun _ => ?_, fun h => absurd rfl h⟩)))
      refine px_cV rfl rfl kX12_makeMachine rfl (c_N_makeMachine (d := 2) (nx := fun i e => nx (i * 24 + e)) (en := enS2 (al1 0) lo hi) hc100 hc1 hmc12 z100 mm4 mm5 z111 z112 (hfp _ _ (FR_of rfl _ _ rfl) h115) (hfp _ _ (FR_of rfl _ _ rfl) h116) (hfp _ _ (FR_of rfl _ _ rfl) h117) n5 n6 n7 n8 (fun i hi e he => ⟨hff2 i hi e he, fun j hj => hB i hi e he j hj⟩) hre2 b1 b2 b3 b4 (fun _ w' x' nu' so' => ?_) (fun q => absurd q (by omega))) (Nat.le_refl _) z100 rfl rfl rfl (Nat.le_of_ble_eq_true rfl) (Nat.zero_le _) (Nat.zero_le _)
      have hfq : fr (FR [10, 11]) X (qH Z3 w' x' nu' so') := fr_set (fr_set (fr_set (fr_set hf3 rfl) rfl) rfl) rfl
      have q100 : (qH Z3 w' x' nu' so')[100]? = some (MD mm) := by
        simp only [px_put_ne, z100, Nat.reduceEqDiff, not_false_eq_true]
      have hin := inv1 X _ mm mc hfX4 x0' hRX hDX (FR_sub hfq (fun g hg => by
        simp only [List.contains_cons, List.contains_nil, Bool.or_eq_true, beq_iff_eq, Bool.or_false] at hg ⊢
        omega)) ((iM'.fr hfX (FR_of rfl) (FR_sm rfl)).fr hfq (FR_of rfl) (FR_sm rfl)) (iMod_q zN4) q100 ⟨mm0, mm5, mm6, mm7, mm10⟩
      exact px_ireturn rfl (Or.inl rfl) (Nat.zero_le _) (Nat.zero_le _) ⟨rfl, hin⟩)
    exact px_ireturn rfl (Or.inl rfl) (by omega) (by omega) ⟨_, rfl, ⟨_, z100⟩, hmod⟩
  · -- a machine more
    rcases b7 with ⟨b7, b8, ln, le, b9, b10⟩ | ⟨-, b8, -⟩
    rotate_left
    · rw [b8] at hls; cases hls
    rw [b8] at hls
    cases hls
    rw [b9] at hnm
    cases hnm
    have hXl : (dH Y w x y na la lea).length = Y.length := by simp
    have hXn : ∀ q, ¬ (38 ≤ q ∧ q ≤ 43) → (dH Y w x y na la lea)[q]? = Y[q]? := fun q hq => by
      rw [px_put_ne (by omega), px_put_ne (by omega), px_put_ne (by omega), px_put_ne (by omega), px_put_ne (by omega), px_put_ne (by omega)]
    have hDX : iDraft (dH Y w x y na la lea) := by
      refine ⟨⟨c, ?_⟩, ⟨f, ?_⟩, ⟨ea, ?_⟩, ⟨w, ?_⟩, ⟨x, ?_⟩, ⟨y, ?_⟩, ⟨na, ?_⟩, ⟨la, ?_⟩, ⟨lea, ?_⟩⟩
      all_goals simp only [px_put_self, px_put_ne, y35, y36, y37, y38, y39, y40, y41, y42, y43, Nat.reduceEqDiff, not_false_eq_true, Option.map_some]
    have hXf : fr (FR [0, 2, 3]) ph (dH Y w x y na la lea) := fr_set (fr_set (fr_set (fr_set (fr_set (fr_set hfY rfl) rfl) rfl) rfl) rfl) rfl
    have hXf3 : fr (FR [3]) Y (dH Y w x y na la lea) := fr_set (fr_set (fr_set (fr_set (fr_set (fr_set fr_id rfl) rfl) rfl) rfl) rfl) rfl
    have hRX := hRY.fr hXf3 (FR_of rfl)
    generalize dH Y w x y na la lea = X at hXl hXn hDX hXf hXf3 hRX ⊢
    have x0' : X[0]? = some (XO 0 mc fd sc wl) := (hXn _ (by omega)).trans y0'
    have x44 : X[44]? = some (QA 5 12 fq) := (hXn _ (by omega)).trans y44
    have a0' : (X ++ [MC kn (sL w1 (kn * 24)) (Y.length + 1) (Y.length + 2), IA (kn * 24) w1, IA kn w2])[0]? = some (XO 0 mc fd sc wl) := by
      rw [List.getElem?_append_left (by omega)]; exact x0'
    have a44 : (X ++ [MC kn (sL w1 (kn * 24)) (Y.length + 1) (Y.length + 2), IA (kn * 24) w1, IA kn w2])[44]? = some (QA 5 12 fq) := by
      rw [List.getElem?_append_left (by omega)]; exact x44
    have aL : (X ++ [MC kn (sL w1 (kn * 24)) (Y.length + 1) (Y.length + 2), IA (kn * 24) w1, IA kn w2])[Y.length]? = some (MC kn (sL w1 (kn * 24)) (Y.length + 1) (Y.length + 2)) := by
      rw [List.getElem?_append_right (by omega), hXl, Nat.sub_self]; rfl
    refine px_cV rfl rfl kX11_keep rfl (c_keep (d := 5) hmc12 a0' a44 aL ?_) (Nat.le_refl _) a0' rfl rfl rfl (Nat.le_of_ble_eq_true rfl) (by omega) (by omega)
    rw [List.set_append_left _ _ (by omega), List.set_append_left _ _ (by rw [List.length_set]; omega)]
    have hVl : ((X.set 0 (XO 0 (mc + 1) fd sc wl)).set 44 (QA 5 12 (va_up fq mc (some Y.length)))).length = Y.length := by rw [List.length_set, List.length_set]; exact hXl
    have hV0 : ((X.set 0 (XO 0 (mc + 1) fd sc wl)).set 44 (QA 5 12 (va_up fq mc (some Y.length))) ++ [MC kn (sL w1 (kn * 24)) (Y.length + 1) (Y.length + 2), IA (kn * 24) w1, IA kn w2])[0]? = some (XO 0 (mc + 1) fd sc wl) := by
      rw [List.getElem?_append_left (by rw [hVl]; omega), px_put_ne (by decide), px_put_self, x0']; rfl
    have hV44 : ((X.set 0 (XO 0 (mc + 1) fd sc wl)).set 44 (QA 5 12 (va_up fq mc (some Y.length))) ++ [MC kn (sL w1 (kn * 24)) (Y.length + 1) (Y.length + 2), IA (kn * 24) w1, IA kn w2])[44]? = some (QA 5 12 (va_up fq mc (some Y.length))) := by
      rw [List.getElem?_append_left (by rw [hVl]; omega), px_put_self, px_put_ne (by decide), x44]; rfl
    have m1 : ((X.set 0 (XO 0 (mc + 1) fd sc wl)).set 44 (QA 5 12 (va_up fq mc (some Y.length))) ++ [MC kn (sL w1 (kn * 24)) (Y.length + 1) (Y.length + 2), IA (kn * 24) w1, IA kn w2])[Y.length]? = some (MC kn (sL w1 (kn * 24)) (Y.length + 1) (Y.length + 2)) := by
      rw [List.getElem?_append_right (by omega), hVl, Nat.sub_self]; rfl
    have m2 : ((X.set 0 (XO 0 (mc + 1) fd sc wl)).set 44 (QA 5 12 (va_up fq mc (some Y.length))) ++ [MC kn (sL w1 (kn * 24)) (Y.length + 1) (Y.length + 2), IA (kn * 24) w1, IA kn w2])[Y.length + 1]? = some (IA (kn * 24) w1) := by
      rw [List.getElem?_append_right (by omega), hVl, Nat.add_sub_cancel_left]; rfl
    have m3 : ((X.set 0 (XO 0 (mc + 1) fd sc wl)).set 44 (QA 5 12 (va_up fq mc (some Y.length))) ++ [MC kn (sL w1 (kn * 24)) (Y.length + 1) (Y.length + 2), IA (kn * 24) w1, IA kn w2])[Y.length + 2]? = some (IA kn w2) := by
      rw [List.getElem?_append_right (by omega), hVl, Nat.add_sub_cancel_left]; rfl
    have hVf4 : fr (FR [0, 4]) X ((X.set 0 (XO 0 (mc + 1) fd sc wl)).set 44 (QA 5 12 (va_up fq mc (some Y.length))) ++ [MC kn (sL w1 (kn * 24)) (Y.length + 1) (Y.length + 2), IA (kn * 24) w1, IA kn w2]) := fr_app (fr_set (fr_set fr_id rfl) rfl)
    have hVn : ∀ q, q < Y.length → ¬ q = 0 → ¬ q = 44 → ((X.set 0 (XO 0 (mc + 1) fd sc wl)).set 44 (QA 5 12 (va_up fq mc (some Y.length))) ++ [MC kn (sL w1 (kn * 24)) (Y.length + 1) (Y.length + 2), IA (kn * 24) w1, IA kn w2])[q]? = X[q]? := fun q q1 q2 q3 => by
      rw [List.getElem?_append_left (by rw [hVl]; exact q1), px_put_ne (Ne.symm q3), px_put_ne (Ne.symm q2)]
    generalize (X.set 0 (XO 0 (mc + 1) fd sc wl)).set 44 (QA 5 12 (va_up fq mc (some Y.length))) ++ [MC kn (sL w1 (kn * 24)) (Y.length + 1) (Y.length + 2), IA (kn * 24) w1, IA kn w2] = V at hV0 hV44 m1 m2 m3 hVf4 hVn ⊢
    have hfV : fr (FR [0, 2, 3, 4]) ph V := fr_tr (FR_sub hXf (fun g hg => by
      simp only [List.contains_cons, List.contains_nil, Bool.or_eq_true, beq_iff_eq, Bool.or_false] at hg ⊢
      omega)) (FR_sub hVf4 (fun g hg => by
      simp only [List.contains_cons, List.contains_nil, Bool.or_eq_true, beq_iff_eq, Bool.or_false] at hg ⊢
      omega))
    have hRV := hRX.fr hVf4 (FR_of rfl)
    have hDV := hDX.fr hVf4 (FR_of rfl)
    -- the Model's rows of machines stand as before
    have vq : ∀ q v, 100 ≤ q → q < 153 → Y[q]? = some v → V[q]? = some v := fun q v a b cc => by
      rw [hVn q (by omega) (by omega) (by omega), hXn q (by omega)]; exact cc
    have v115 := vq 115 _ (by omega) (by omega) (hfY _ _ (FR_of rfl _ _ rfl) h115)
    have v116 := vq 116 _ (by omega) (by omega) (hfY _ _ (FR_of rfl _ _ rfl) h116)
    have v117 := vq 117 _ (by omega) (by omega) (hfY _ _ (FR_of rfl _ _ rfl) h117)
    have z100 := hfV _ _ (FR_of rfl _ _ rfl) h100
    have hmod := modS V (nI mc) hfV (fun q => by rw [hs] at q; cases q) (fun c2 lo2 hi2 nx2 q hSI2 Z3 mm f2 re2 hf3 zN3 z100 hmm z111 z112 hff2 hre2 => by
      rw [hs] at q
      cases q
      obtain ⟨mm0, mm4, mm5, mm6, mm7, mm10⟩ := hmm
      have zN4 := zN3
      obtain ⟨-, -, -, -, -, -, -, -, -, -, -, -, -, ⟨g5, n5⟩, ⟨g6, n6⟩, ⟨g7, n7⟩, ⟨g8, n8⟩⟩ := zN3
      have z115 := hf3 _ _ (FR_of rfl _ _ rfl) v115
      have z116 := hf3 _ _ (FR_of rfl _ _ rfl) v116
      have z117 := hf3 _ _ (FR_of rfl _ _ rfl) v117
      (repeat (first | (refine px_st rfl rfl ?_; simp only [px_wp, px_at, px_set, px_set2, px_clr, px_ldi, px_ldl, px_lda, px_i1, px_i2, px_l1, px_l2, px_il, px_a1, px_r1, px_r2, px_ir, px_vir, px_g, px_v1, px_v2, px_gf, px_pf, px_ps, px_ar, px_nth, px_upd, px_zero, px_dfl, px_put_self, px_put_ne, px_sw, nI_add, pk_mul, true_and, and_true, Nat.reduceAdd, Nat.reduceLT, Nat.reduceEqDiff, List.length_cons, List.length_nil, true_or, or_true, List.set_set, ne_eq, not_false_eq_true, Fin.isValue, Fin.val_zero, Fin.val_one, Fin.val_two, reduceCtorEq, Option.map_some, List.length_set, Nat.zero_lt_succ, Option.toList_some, Option.toList_none, List.cons_append, List.nil_append, px_b_2, IA, LA, BA, ZA, QA, PT, DR, TL, MC, CD, CC, false_and, or_false, false_or, nar_b, nar_0, nar_1, nar_y]) | (refine ⟨_, rfl, by omega, ?_⟩) | (refine ⟨fun h => absurd h (nI_nlt (by omega) (by omega)), fun _ => ?_⟩) | (refine ⟨fun _ => ?_, fun h => absurd h (nI_nlt (by omega) (by omega))⟩) | (refine ⟨fun h => absurd (nI_lt (by omega) (by omega)) h, fun _ => ?_⟩) | (refine ⟨fun _ => ?_, fun h => absurd (nI_lt (by omega) (by omega)) h⟩) | (refine ⟨fun h => absurd ((nI_eq (by omega) (by omega)).mp h) (by omega), fun _ => ?_⟩) | (refine ⟨fun _ => ?_, fun h => absurd ((nI_eq (by omega) (by omega)).mp h) (by omega)⟩) | (refine ⟨fun h => absurd h (by decide), fun _ => ?_⟩) | (refine ⟨fun _ => ?_, fun h => absurd h (by decide)⟩) | (refine ⟨fun h => absurd rfl h, fun _ => ?_⟩) | (refine ⟨fun _ => ?_, fun h => absurd rfl h⟩)))
      refine px_cV rfl rfl kX12_makeMachine rfl (c_N_makeMachine (d := 2) (nx := fun i e => nx (i * 24 + e)) (en := enS2 (al1 0) lo hi) hc100 hc1 hmc12 z100 mm4 mm5 z111 z112 z115 z116 z117 n5 n6 n7 n8 (fun i hi e he => ⟨hff2 i hi e he, fun j hj => hB i hi e he j hj⟩) hre2 b1 b2 b3 b4 (fun q => absurd q (by omega)) (fun _ fl' fe' w' x' nu' so' z1 z2 z3 z4 => ?_)) (Nat.le_refl _) z100 rfl rfl rfl (Nat.le_of_ble_eq_true rfl) (Nat.zero_le _) (Nat.zero_le _)
      have hfs : fr (FR [4, 10, 11]) V (sH Z3 (upd mm 5 (nI (mc + 1))) (upd fs mc (nI kn)) fl' fe' w' x' nu' so') := fr_set (fr_set (fr_set (fr_set (fr_set (fr_set (fr_set (fr_set (FR_sub hf3 (fun g hg => by
        simp only [List.contains_cons, List.contains_nil, Bool.or_eq_true, beq_iff_eq, Bool.or_false] at hg ⊢
        omega)) rfl) rfl) rfl) rfl) rfl) rfl) rfl) rfl
      have hfall : fr (FR [0, 2, 3, 4, 10, 11]) ph (sH Z3 (upd mm 5 (nI (mc + 1))) (upd fs mc (nI kn)) fl' fe' w' x' nu' so') := fr_tr (FR_sub hfV (fun g hg => by
        simp only [List.contains_cons, List.contains_nil, Bool.or_eq_true, beq_iff_eq, Bool.or_false] at hg ⊢
        omega)) (FR_sub hfs (fun g hg => by
        simp only [List.contains_cons, List.contains_nil, Bool.or_eq_true, beq_iff_eq, Bool.or_false] at hg ⊢
        omega))
      have hg : (sH Z3 (upd mm 5 (nI (mc + 1))) (upd fs mc (nI kn)) fl' fe' w' x' nu' so')[100]? = some (MD (upd mm 5 (nI (mc + 1)))) ∧ (sH Z3 (upd mm 5 (nI (mc + 1))) (upd fs mc (nI kn)) fl' fe' w' x' nu' so')[115]? = some (IA 12 (upd fs mc (nI kn))) ∧ (sH Z3 (upd mm 5 (nI (mc + 1))) (upd fs mc (nI kn)) fl' fe' w' x' nu' so')[116]? = some (IA 6912 fl') ∧ (sH Z3 (upd mm 5 (nI (mc + 1))) (upd fs mc (nI kn)) fl' fe' w' x' nu' so')[117]? = some (ZA 288 fe') := by
        refine ⟨?_, ?_, ?_, ?_⟩
        all_goals simp only [px_put_self, px_put_ne, z100, z115, z116, z117, Nat.reduceEqDiff, not_false_eq_true, Option.map_some]
      have hdy : ∀ q v, 153 ≤ q → V[q]? = some v → (sH Z3 (upd mm 5 (nI (mc + 1))) (upd fs mc (nI kn)) fl' fe' w' x' nu' so')[q]? = some v := fun q v a b => hfs _ _ (FR_dy rfl _ _ a) b
      have h44z : (sH Z3 (upd mm 5 (nI (mc + 1))) (upd fs mc (nI kn)) fl' fe' w' x' nu' so')[44]? = some (QA 5 12 (va_up fq mc (some Y.length))) := by
        have := hf3 _ _ (FR_of rfl _ _ rfl) hV44
        simp only [px_put_ne, this, Nat.reduceEqDiff, not_false_eq_true]
      have hmach : iMach (mc + 1) (sH Z3 (upd mm 5 (nI (mc + 1))) (upd fs mc (nI kn)) fl' fe' w' x' nu' so') := by
        refine iMach_add (nx0 := fun u e => (nx (hd u * 24 + e)).bind (fun t => nb (FI t))) (en0 := fun u => enS2 (al1 0) lo hi (hd u)) hmc12 hM hfall (FR_sm rfl) h44z hg.2.1 hg.2.2.1 hg.2.2.2 ?_ z1 z2 z3 z4
        refine ⟨⟨b6, b7, fun u hu e he j hj => ?_⟩, Y.length + 1, Y.length + 2, w1, w2, ⟨by omega, by omega, by omega⟩, hdy _ _ (by omega) m1, hdy _ _ (by omega) m2, hdy _ _ (by omega) m3, fun u hu => ?_, fun u hu e he => ?_⟩
        · have hj : (nx (hd u * 24 + e)).bind (fun t => nb (FI t)) = some j := hj
          cases hx : nx (hd u * 24 + e) with
          | none => rw [hx] at hj; cases hj
          | some t => rw [hx] at hj; exact (b5.1 _ _ hj).1
        · rw [hw2 u hu, (b10 u hu).1]
        · rw [hw1 _ (by omega), (b10 u hu).2 e he]
      have hin := inv1 V _ _ (mc + 1) hfV hV0 hRV hDV hfs hmach (iMod_s zN4) hg.1 ⟨(up_ne (by decide)).trans mm0, pk_us, (up_ne (by decide)).trans mm6, (up_ne (by decide)).trans mm7, (up_ne (by decide)).trans mm10⟩
      exact px_ireturn rfl (Or.inl rfl) (Nat.zero_le _) (Nat.zero_le _) ⟨rfl, hin⟩)
    exact px_ireturn rfl (Or.inl rfl) (by omega) (by omega) ⟨_, rfl, ⟨_, z100⟩, hmod⟩
end ORD
