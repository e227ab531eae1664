theorem px_ps_e {ph : List px_E} {o a b f : Nat} {x : Value} {P : List px_E → Prop} (h : px_ps ph o a b f x P) : ∃ fs, ph[o]? = some (.inr (a, fs)) ∧ b < fs.length ∧ px_pf f x (P (ph.set o (.inr (a, fs.set b x)))) := by
  unfold px_ps at h
  split at h
  · rename_i q e
    obtain ⟨h1, h2, h3⟩ := h
    obtain ⟨ci, fs⟩ := q
    simp only at h1 h2 h3
    subst h1
    rw [px_upd_eq] at h3
    exact ⟨fs, e, h2, h3⟩
  · exact h.elim
theorem px_pf_e {f : Nat} {x : Value} {P : Prop} (h : px_pf f x P) (B : Nat) : P ∧ ∀ ty, px_fk ty f = true → narrow ty (px_v B x) = px_v B x ∧ fits ty (px_v B x) = true := by
  unfold px_pf at h
  split at h
  · split at h
    · refine ⟨h, fun ty hk => ?_⟩
      cases ty <;> simp [px_fk] at hk
      exact ⟨rfl, rfl⟩
    · exact h.elim
  · split at h
    · obtain ⟨hz, h⟩ := h
      refine ⟨h, fun ty hk => ?_⟩
      cases ty <;> simp [px_fk] at hk
      rcases hz with rfl | rfl
      · exact ⟨show narrow .boolean (.int (nI 0)) = .int (nI 0) by decide, show fits .boolean (.int (nI 0)) = true by decide⟩
      · exact ⟨show narrow .boolean (.int (nI 1)) = .int (nI 1) by decide, show fits .boolean (.int (nI 1)) = true by decide⟩
    · exact h.elim
  · split at h
    · refine ⟨h, fun ty hk => ?_⟩
      cases ty <;> simp [px_fk] at hk
      exact ⟨rfl, rfl⟩
    · exact h.elim
  · split at h
    · refine ⟨h, fun ty hk => ?_⟩
      cases ty <;> simp [px_fk] at hk <;> exact ⟨rfl, rfl⟩
    · refine ⟨h, fun ty hk => ?_⟩
      cases ty <;> simp [px_fk] at hk <;> exact ⟨rfl, rfl⟩
    · exact h.elim
  · exact h.elim
theorem px_cell_i {cA : ClassId} {n j : Nat} {f : Nat → Int32} {x : Int32} : (vp_cell cA (n, .inl f)).setSlot j (.int x) = vp_cell cA (n, .inl (upd f j x)) := by
  rw [vp_cell_i, vp_cell_i, arrV_store]
  congr 1
  funext q
  by_cases hq : q = j
  · subst hq
    simp [updV, upd]
  · simp [updV, upd, hq]
theorem px_cell_l {cA : ClassId} {n j : Nat} {f : Nat → Int64} {x : Int64} : (vp_cell cA (n, .inr (.inl f))).setSlot j (.long x) = vp_cell cA (n, .inr (.inl (vp_updL f j x))) := by
  rw [vp_cell_l, vp_cell_l, arrV_store]
  congr 1
  funext q
  by_cases hq : q = j
  · subst hq
    simp [updV, vp_updL]
  · simp [updV, vp_updL, hq]
theorem px_cell_q {cA : ClassId} {n j v : Nat} {f : Nat → Option Nat} : (vp_cell cA (n, .inr (.inr (.inr (.inr f))))).setSlot j (.ref v) = vp_cell cA (n, .inr (.inr (.inr (.inr (va_up f j (some v)))))) := by
  rw [vp_cell_q, vp_cell_q, arrV_store]
  congr 1
  funext q
  by_cases hq : q = j
  · subst hq
    simp [updV, va_up, va_rf]
  · simp [updV, va_up, hq]
theorem px_up_map {f : Nat → Option Nat} {j q B : Nat} : (fun i => (va_up f j (some q) i).map (fun z => B + z)) = va_up (fun i => (f i).map (fun z => B + z)) j (some (B + q)) := by
  funext i
  by_cases h : i = j
  · subst h; simp [va_up]
  · simp [va_up, h]
theorem px_dfl_v {B a : Nat} {q : vw_C} {fs : List Value} (hq : vwCl[a]? = some q) (h : px_dfl[a]? = some fs) : fs.map (px_v B) = fs := by
  have hl : a < 13 := (List.getElem?_eq_some_iff.mp hq).1
  rcases (show a = 0 ∨ a = 1 ∨ a = 2 ∨ a = 3 ∨ a = 4 ∨ a = 5 ∨ a = 6 ∨ a = 7 ∨ a = 8 ∨ a = 9 ∨ a = 10 ∨ a = 11 ∨ a = 12 by omega) with rfl | rfl | rfl | rfl | rfl | rfl | rfl | rfl | rfl | rfl | rfl | rfl | rfl <;> cases h <;> rfl
section PXH
variable {G : px_G} {M : px_M} {d mc ms : Nat} {Post : Option Value → List px_E → Prop} {k n pc nx a b pos f : Nat} {v : Int32} {pl : List (Option Value)} {st : List Value} {ph : List px_E}
theorem px_s_getfield {i : Nat} (hI : px_look (px_code M) pc = some (.getfield i, nx, a, b, pos, v, f)) (h : px_wp mc ms (px_W G M d mc ms Post) (.getfield i, nx, a, b, pos, v, f) k n pc pl st ph) : px_W G M d mc ms Post k n pc pl st ph := by
  intro p e s m args below meth c C H locs ls hH hS hL
  obtain ⟨hd, rfl, hw⟩ := px_dec (L := 3) C.2.2.2.2.2.2.2.2.2.2 hI rfl (by decide)
  obtain ⟨o, r, rfl, h⟩ := px_r1_e (show px_r1 st (fun o r => px_gf ph o a b (fun x => px_W G M d mc ms Post k n _ pl (x :: r) ph)) from h)
  obtain ⟨fs, x, e1, e2, h⟩ := px_gf_e h
  simp only [px_chkW] at hw
  split at hw
  · rename_i q hq
    simp only [Bool.and_eq_true, decide_eq_true_eq] at hw
    obtain ⟨_, ty, _, _, _, _, _, hws, _⟩ := px_chkC_at hq
    exact va_get (D := G.2.1) (ci := a) (C := q.1) (T := q.2.1) (N := q.2.2) (fs := fs.map (px_v G.2.2.2)) C.1 C.2.1 C.2.2.2.2.1 hws C.2.2.2.1 C.2.2.2.2.2.1 (hH.one e1) 0 rfl hq b hw.1 (C.2.2.2.2.1 _ (px_tbl_of hw.2 rfl)) (fun _ z => z) (v := px_v G.2.2.2 x) (by rw [List.getElem?_map, e2]; rfl) hd (h p e s m args below meth c C H locs ls hH hS hL)
  · cases hw
theorem px_s_putfield {i : Nat} (hI : px_look (px_code M) pc = some (.putfield i, nx, a, b, pos, v, f)) (h : px_wp mc ms (px_W G M d mc ms Post) (.putfield i, nx, a, b, pos, v, f) k n pc pl st ph) : px_W G M d mc ms Post k n pc pl st ph := by
  intro p e s m args below meth c C H locs ls hH hS hL
  obtain ⟨hd, rfl, hw⟩ := px_dec (L := 3) C.2.2.2.2.2.2.2.2.2.2 hI rfl (by decide)
  obtain ⟨x, o, r, rfl, h⟩ := px_r2_e (show px_r2 st (fun x o r => px_ps ph o a b f x (fun ph' => px_W G M d mc ms Post k n _ pl r ph')) from h)
  obtain ⟨fs, e1, hl, h⟩ := px_ps_e h
  obtain ⟨h, hfit⟩ := px_pf_e h G.2.2.2
  simp only [px_chkW] at hw
  split at hw
  · rename_i q ty hq hty
    simp only [Bool.and_eq_true, Bool.or_eq_true, Bool.not_eq_true', decide_eq_true_eq] at hw
    obtain ⟨⟨⟨hb, hlink⟩, hk⟩, hfin⟩ := hw
    obtain ⟨_, ty', _, ht', _, _, _, hws, hpd, hnm, _⟩ := px_chkC_at hq
    cases hty.symm.trans ht'
    obtain ⟨hn, hf⟩ := hfit (ty b) hk
    have hts := C.2.2.2.2.1
    have hK := C.2.2.2.2.2.1
    have hown := C.2.2.2.1
    have hlink' := hts _ (px_tbl_of hlink rfl)
    have hap := va_apart (own := (px_name M).cls) hts hws ty hpd hnm hK hq
    obtain ⟨r', h1, cell, q1, q2, q3, q4⟩ := hH.2.1 o _ e1
    cases hq.symm.trans h1
    obtain ⟨hSl, hfc, kC, hkC, hkind⟩ := hK.1 a _ hq
    obtain ⟨cf, kf, fi, fd, hi, hsl⟩ := hSl b hb
    have hlay := hts _ (hws _ (u_in_lay hb))
    have hst := (u_facts hfc hkC (u_lays hts hws hb) hi).1
    have hB : (fun q => G.2.2.2 ≤ q) (G.2.2.2 + o) := Nat.le_add_right _ _
    have key : ∀ H' : Heap, H'[G.2.2.2 + o]? = some (cell.setSlot fd.slot (px_v G.2.2.2 x)) → H'.size = H.size → (∀ q, q ≠ G.2.2.2 + o → H'[q]? = H[q]?) → W p G.1 e (px_R d mc ms) s m args below meth c H' (locs ++ [⟨G.2.2.2 + o, fd.slot⟩]) k n (MQ below (px_Q G Post) args s mc ms (fun q => G.2.2.2 ≤ q)) (F0 m (pc + 3) ls (r.map (px_v G.2.2.2))) := by
      intro H' z1 z2 z3
      rw [hsl] at z1
      refine h p e s m args below meth c C H' _ ls (hH.set e1 ⟨_, hq, ?_⟩ z2 z3 (fun _ _ _ z => by cases z)) (hS.put z2 z3 hB) hL
      show t_OB _ _ _ _ _ (vp_V ((fs.set b x).map (px_v G.2.2.2)))
      rw [List.map_set]
      exact t_OB.to (V := updV (vp_V (fs.map (px_v G.2.2.2))) b (px_v G.2.2.2 x)) ⟨_, z1, q2, q3, t_set q4 hap hb _⟩ (fun j _ => vp_updV_set (by rw [List.length_map]; exact hl) _ j)
    unfold u_lay at hlay
    rcases hfin with hfin | ⟨hin, hdecl⟩
    · rw [if_neg (by rw [hfin]; decide)] at hlay
      have h6 := u_store hfc hkC hkind hlay hi (hpd b hb) hn hf
      exact W.putK C.1 C.2.1 (f := fd) ⟨hown, hlink', ⟨_, _, _, hi⟩, hst⟩ (by rw [q2]; exact h6) q1 q3 (by rw [hsl]; exact k2_hasslot (q4 b hb)) rfl rfl hd key
    · by_cases hfin2 : (q.2.1 b).2.2.2 = true
      · rw [if_pos hfin2] at hlay
        have hcf : m.cls = cf := by
          obtain ⟨_, _, c', _, _, _, -, -, hf', -, -, -, hown2, -⟩ := Cond.laysFinal_spec hlay
          have e9 : c' = cf := by have := hi.symm.trans hf'; simp at this; exact this.1.symm
          rw [hdecl] at hown2
          rw [← e9]; exact Option.some.inj (hown.symm.trans hown2)
        have h6 := u_fits hfc hkC hkind (Or.inr hlay) hi (hpd b hb) hn hf
        exact W.putFinK C.1 C.2.1 hown hlink' hi hst hcf (C.2.2.2.2.2.2.2.2.1.trans hin) (by rw [q2]; exact h6) q1 q3 (by rw [hsl]; exact k2_hasslot (q4 b hb)) rfl rfl hd key
      · rw [if_neg hfin2] at hlay
        have h6 := u_store hfc hkC hkind hlay hi (hpd b hb) hn hf
        exact W.putK C.1 C.2.1 (f := fd) ⟨hown, hlink', ⟨_, _, _, hi⟩, hst⟩ (by rw [q2]; exact h6) q1 q3 (by rw [hsl]; exact k2_hasslot (q4 b hb)) rfl rfl hd key
  · cases hw
theorem px_s_iaload (hI : px_look (px_code M) pc = some (.iaload, nx, a, b, pos, v, f)) (h : px_wp mc ms (px_W G M d mc ms Post) (.iaload, nx, a, b, pos, v, f) k n pc pl st ph) : px_W G M d mc ms Post k n pc pl st ph := by
  intro p e s m args below meth c C H locs ls hH hS hL
  obtain ⟨hd, rfl, hw⟩ := px_dec (L := 1) C.2.2.2.2.2.2.2.2.2.2 hI rfl (by decide)
  simp only [px_wp] at h
  have h0 := h
  clear h
  obtain ⟨o, i, r, rfl, h⟩ := px_ir_e h0
  obtain ⟨t, N, cc, j, e1, rfl, hj, rfl, h⟩ := px_ar_e h
  rcases cc with f | cc
  · have hN := hH.2.2 _ _ _ _ e1
    have hc : (nI j).toNatClampNeg = j := nI_clamp (by omega)
    refine va_iald C.1 C.2.1 C.2.2.2.2.2.1 (hH.one e1) 0 0 rfl (px_tyL_at rfl) (vp_in_nI hj hN) hd ?_
    rw [hc]
    exact h p e s m args below meth c C H locs ls hH hS hL
  · exact h.elim
theorem px_s_baload (hI : px_look (px_code M) pc = some (.baload, nx, a, b, pos, v, f)) (h : px_wp mc ms (px_W G M d mc ms Post) (.baload, nx, a, b, pos, v, f) k n pc pl st ph) : px_W G M d mc ms Post k n pc pl st ph := by
  intro p e s m args below meth c C H locs ls hH hS hL
  obtain ⟨hd, rfl, hw⟩ := px_dec (L := 1) C.2.2.2.2.2.2.2.2.2.2 hI rfl (by decide)
  simp only [px_wp] at h
  have h0 := h
  clear h
  obtain ⟨o, i, r, rfl, h⟩ := px_ir_e h0
  obtain ⟨t, N, cc, j, e1, rfl, hj, ht, h⟩ := px_ar_e h
  rcases cc with f | cc
  · have hN := hH.2.2 _ _ _ _ e1
    have hc : (nI j).toNatClampNeg = j := nI_clamp (by omega)
    rcases ht with rfl | rfl
    · refine va_bald C.1 C.2.1 C.2.2.2.2.2.1 (hH.one e1) 0 2 rfl (px_tyL_at rfl) (vp_in_nI hj hN) hd ?_
      rw [hc]
      exact h p e s m args below meth c C H locs ls hH hS hL
    · refine va_zald C.1 C.2.1 C.2.2.2.2.2.1 (hH.one e1) 0 3 rfl (px_tyL_at rfl) (vp_in_nI hj hN) hd ?_
      rw [hc]
      exact h p e s m args below meth c C H locs ls hH hS hL
  · exact h.elim
theorem px_s_laload (hI : px_look (px_code M) pc = some (.laload, nx, a, b, pos, v, f)) (h : px_wp mc ms (px_W G M d mc ms Post) (.laload, nx, a, b, pos, v, f) k n pc pl st ph) : px_W G M d mc ms Post k n pc pl st ph := by
  intro p e s m args below meth c C H locs ls hH hS hL
  obtain ⟨hd, rfl, hw⟩ := px_dec (L := 1) C.2.2.2.2.2.2.2.2.2.2 hI rfl (by decide)
  simp only [px_wp] at h
  have h0 := h
  clear h
  obtain ⟨o, i, r, rfl, h⟩ := px_ir_e h0
  obtain ⟨t, N, cc, j, e1, rfl, hj, rfl, h⟩ := px_ar_e h
  rcases cc with f | f | cc
  · exact h.elim
  · have hN := hH.2.2 _ _ _ _ e1
    have hc : (nI j).toNatClampNeg = j := nI_clamp (by omega)
    refine va_lald C.1 C.2.1 C.2.2.2.2.2.1 (hH.one e1) 0 1 rfl (px_tyL_at rfl) (vp_in_nI hj hN) hd ?_
    rw [hc]
    exact h p e s m args below meth c C H locs ls hH hS hL
  · exact h.elim
theorem px_v_rf {B : Nat} {q : Option Nat} : px_v B (va_rf q) = va_rf (q.map (fun z => B + z)) := by cases q <;> rfl
theorem px_tys_ref {t : Nat} (h : 4 ≤ t) (ht : t < px_tys.length) : ∃ C, px_tys[t]? = some (.object C) := by
  have h2 : t < 8 := ht
  rcases (show t = 4 ∨ t = 5 ∨ t = 6 ∨ t = 7 by omega) with rfl | rfl | rfl | rfl <;> exact ⟨_, rfl⟩
theorem px_s_aaload (hI : px_look (px_code M) pc = some (.aaload, nx, a, b, pos, v, f)) (h : px_wp mc ms (px_W G M d mc ms Post) (.aaload, nx, a, b, pos, v, f) k n pc pl st ph) : px_W G M d mc ms Post k n pc pl st ph := by
  intro p e s m args below meth c C H locs ls hH hS hL
  obtain ⟨hd, rfl, hw⟩ := px_dec (L := 1) C.2.2.2.2.2.2.2.2.2.2 hI rfl (by decide)
  simp only [px_wp] at h
  have h0 := h
  clear h
  obtain ⟨o, i, r, rfl, h⟩ := px_ir_e h0
  obtain ⟨t, N, cc, j, e1, rfl, hj, ht, h⟩ := px_ar_e h
  rcases cc with f | f | f | f | f
  · exact h.elim
  · exact h.elim
  · exact h.elim
  · exact h.elim
  · have hN := hH.2.2 _ _ _ _ e1
    have hc : (nI j).toNatClampNeg = j := nI_clamp (by omega)
    obtain ⟨ht, ht2⟩ := ht
    obtain ⟨CC, hCC⟩ := px_tys_ref ht ht2
    refine va_aldq C.1 C.2.1 C.2.2.2.2.2.1 (hH.one e1) 0 t rfl (px_tyL_at hCC) (vp_in_nI hj hN) hd ?_
    rw [hc]
    have h' := h p e s m args below meth c C H locs ls hH hS hL
    rw [List.map_cons, px_v_rf] at h'
    exact h'
theorem px_s_iastore (hI : px_look (px_code M) pc = some (.iastore, nx, a, b, pos, v, f)) (h : px_wp mc ms (px_W G M d mc ms Post) (.iastore, nx, a, b, pos, v, f) k n pc pl st ph) : px_W G M d mc ms Post k n pc pl st ph := by
  intro p e s m args below meth c C H locs ls hH hS hL
  obtain ⟨hd, rfl, hw⟩ := px_dec (L := 1) C.2.2.2.2.2.2.2.2.2.2 hI rfl (by decide)
  simp only [px_wp] at h
  have h0 := h
  clear h
  obtain ⟨o, i, x, r, rfl, h⟩ := px_vir_e h0
  obtain ⟨t, N, cc, j, e1, rfl, hj, rfl, h⟩ := px_ar_e h
  rcases cc with f | cc
  · cases x with
    | int x =>
      have hN := hH.2.2 _ _ _ _ e1
      have hc : (nI j).toNatClampNeg = j := nI_clamp (by omega)
      have hB : (fun q => G.2.2.2 ≤ q) (G.2.2.2 + o) := Nat.le_add_right _ _
      refine W.iast C.1 C.2.1 (hH.2.1 o _ e1) ((C.2.2.2.2.2.1.2 0 _ (px_tyL_at rfl)).1 N (fun j => .int (f j))) (fun q => by cases q) (by show ¬ (_ ∨ (arrV _ _ _).slots.size ≤ _); rw [arrV_size]; exact vp_in_nI hj hN) rfl rfl hd fun H1 z1 z2 z3 => ?_
      rw [hc] at z1
      exact h p e s m args below meth c C H1 _ ls (hH.set e1 (z1.trans (congrArg some px_cell_i)) z2 z3 (fun _ _ _ z => by cases z; exact hN)) (hS.put z2 z3 hB) hL
    | _ => exact h.elim
  · cases x <;> exact h.elim
theorem px_s_bastore (hI : px_look (px_code M) pc = some (.bastore, nx, a, b, pos, v, f)) (h : px_wp mc ms (px_W G M d mc ms Post) (.bastore, nx, a, b, pos, v, f) k n pc pl st ph) : px_W G M d mc ms Post k n pc pl st ph := by
  intro p e s m args below meth c C H locs ls hH hS hL
  obtain ⟨hd, rfl, hw⟩ := px_dec (L := 1) C.2.2.2.2.2.2.2.2.2.2 hI rfl (by decide)
  simp only [px_wp] at h
  have h0 := h
  clear h
  obtain ⟨o, i, x, r, rfl, h⟩ := px_vir_e h0
  obtain ⟨t, N, cc, j, e1, rfl, hj, h⟩ := px_ar_e h
  rcases cc with f | cc
  · cases x with
    | int x =>
      have hN := hH.2.2 _ _ _ _ e1
      have hc : (nI j).toNatClampNeg = j := nI_clamp (by omega)
      have hB : (fun q => G.2.2.2 ≤ q) (G.2.2.2 + o) := Nat.le_add_right _ _
      rcases h with ⟨rfl, h⟩ | ⟨rfl, h⟩
      · refine W.bast C.1 C.2.1 (hH.2.1 o _ e1) ((C.2.2.2.2.2.1.2 2 _ (px_tyL_at rfl)).1 N (fun j => .int (f j))) (fun q => by cases q) (by show ¬ (_ ∨ (arrV _ _ _).slots.size ≤ _); rw [arrV_size]; exact vp_in_nI hj hN) rfl rfl hd fun H1 z1 z2 z3 => ?_
        rw [hc] at z1
        exact h p e s m args below meth c C H1 _ ls (hH.set e1 (z1.trans (congrArg some (px_cell_i (x := vp_nar .byte x)))) z2 z3 (fun _ _ _ z => by cases z; exact hN)) (hS.put z2 z3 hB) hL
      · refine W.zast C.1 C.2.1 (hH.2.1 o _ e1) ((C.2.2.2.2.2.1.2 3 _ (px_tyL_at rfl)).1 N (fun j => .int (f j))) (fun q => by cases q) (by show ¬ (_ ∨ (arrV _ _ _).slots.size ≤ _); rw [arrV_size]; exact vp_in_nI hj hN) rfl rfl hd fun H1 z1 z2 z3 => ?_
        rw [hc] at z1
        exact h p e s m args below meth c C H1 _ ls (hH.set e1 (z1.trans (congrArg some (px_cell_i (x := vp_nar .boolean x)))) z2 z3 (fun _ _ _ z => by cases z; exact hN)) (hS.put z2 z3 hB) hL
    | _ => exact h.elim
  · cases x <;> exact h.elim
theorem px_s_lastore (hI : px_look (px_code M) pc = some (.lastore, nx, a, b, pos, v, f)) (h : px_wp mc ms (px_W G M d mc ms Post) (.lastore, nx, a, b, pos, v, f) k n pc pl st ph) : px_W G M d mc ms Post k n pc pl st ph := by
  intro p e s m args below meth c C H locs ls hH hS hL
  obtain ⟨hd, rfl, hw⟩ := px_dec (L := 1) C.2.2.2.2.2.2.2.2.2.2 hI rfl (by decide)
  simp only [px_wp] at h
  have h0 := h
  clear h
  obtain ⟨o, i, x, r, rfl, h⟩ := px_vir_e h0
  obtain ⟨t, N, cc, j, e1, rfl, hj, rfl, h⟩ := px_ar_e h
  rcases cc with f | f | cc
  · cases x <;> exact h.elim
  · cases x with
    | long x =>
      have hN := hH.2.2 _ _ _ _ e1
      have hc : (nI j).toNatClampNeg = j := nI_clamp (by omega)
      have hB : (fun q => G.2.2.2 ≤ q) (G.2.2.2 + o) := Nat.le_add_right _ _
      refine W.last C.1 C.2.1 (hH.2.1 o _ e1) ((C.2.2.2.2.2.1.2 1 _ (px_tyL_at rfl)).1 N (fun j => .long (f j))) (fun q => by cases q) (by show ¬ (_ ∨ (arrV _ _ _).slots.size ≤ _); rw [arrV_size]; exact vp_in_nI hj hN) rfl rfl hd fun H1 z1 z2 z3 => ?_
      rw [hc] at z1
      exact h p e s m args below meth c C H1 _ ls (hH.set e1 (z1.trans (congrArg some px_cell_l)) z2 z3 (fun _ _ _ z => by cases z; exact hN)) (hS.put z2 z3 hB) hL
    | _ => exact h.elim
  · cases x <;> exact h.elim
theorem px_s_aastore (hI : px_look (px_code M) pc = some (.aastore, nx, a, b, pos, v, f)) (h : px_wp mc ms (px_W G M d mc ms Post) (.aastore, nx, a, b, pos, v, f) k n pc pl st ph) : px_W G M d mc ms Post k n pc pl st ph := by
  intro p e s m args below meth c C H locs ls hH hS hL
  obtain ⟨hd, rfl, hw⟩ := px_dec (L := 1) C.2.2.2.2.2.2.2.2.2.2 hI rfl (by decide)
  simp only [px_wp] at h
  have h0 := h
  clear h
  obtain ⟨o, i, x, r, rfl, h⟩ := px_vir_e h0
  obtain ⟨t, N, cc, j, e1, rfl, hj, h⟩ := px_ar_e h
  rcases cc with f | f | f | f | f
  · cases x <;> exact h.elim
  · cases x <;> exact h.elim
  · cases x <;> exact h.elim
  · cases x <;> exact h.elim
  · cases x with
    | ref w =>
      obtain ⟨ci, vs, e2, hok, h⟩ := h
      have hN := hH.2.2 _ _ _ _ e1
      have hc : (nI j).toNatClampNeg = j := nI_clamp (by omega)
      have hB : (fun q => G.2.2.2 ≤ q) (G.2.2.2 + o) := Nat.le_add_right _ _
      have hin := vp_in_nI hj hN
      simp only [px_asok, Bool.and_eq_true, decide_eq_true_eq] at hok
      obtain ⟨hok, hci⟩ := hok
      have hr : vwCl[ci]? = some vwCl[ci] := List.getElem?_eq_getElem hci
      rw [hr] at hok
      have hK := C.2.2.2.2.2.1
      obtain ⟨r', hr', cellV, g1, g2, g3, -⟩ := hH.2.1 w _ e2
      have hcls := (hK.1 ci _ hr).2
      obtain ⟨kA, comp, k1, k2, k3, -⟩ := (hK.2 t _ (px_tyL_at hok)).2
      have hcomp : comp = G.2.1.1 ci := Option.some.inj (k3.symm.trans hcls.1)
      subst hcomp
      obtain ⟨kC, hkC, -⟩ := hcls.2
      refine W.aast C.1 C.2.1 (hH.2.1 o _ e1) (fun q h => by cases h) (fun h => by cases h) k1 k2 rfl hkC ⟨fun q => hin (Or.inl q), by show _ < (arrV _ _ _).slots.size; rw [arrV_size, hc]; exact hj⟩ g1 (fun q h => by rw [g3] at h; cases h) (by rw [g2]; exact hkC) (by rw [g2]; exact va_assign hcls) rfl rfl hd fun H1 z1 z2 z3 => ?_
      rw [hc] at z1
      refine h p e s m args below meth c C H1 _ ls (hH.set e1 ((z1.trans (congrArg some px_cell_q)).trans ?_) z2 z3 (fun _ _ _ z => by cases z; exact hN)) (hS.put z2 z3 hB) hL
      show _ = some (vp_cell (G.2.2.1 t) (N, .inr (.inr (.inr (.inr (fun i => (va_up f j (some w) i).map (fun z => G.2.2.2 + z)))))))
      rw [px_up_map]
    | _ => exact h.elim
theorem px_s_arraylength (hI : px_look (px_code M) pc = some (.arraylength, nx, a, b, pos, v, f)) (h : px_wp mc ms (px_W G M d mc ms Post) (.arraylength, nx, a, b, pos, v, f) k n pc pl st ph) : px_W G M d mc ms Post k n pc pl st ph := by
  intro p e s m args below meth c C H locs ls hH hS hL
  obtain ⟨hd, rfl, hw⟩ := px_dec (L := 1) C.2.2.2.2.2.2.2.2.2.2 hI rfl (by decide)
  simp only [px_wp] at h
  have h0 := h
  clear h
  obtain ⟨o, r, rfl, h⟩ := px_r1_e h0
  split at h
  · rename_i q e1
    obtain ⟨h1, h⟩ := h
    have h2 : px_tys[q.1]? = some px_tys[q.1] := List.getElem?_eq_getElem h1
    exact va_alen C.1 C.2.1 C.2.2.2.2.2.1 (hH.one e1) 0 q.1 rfl (px_tyL_at h2) rfl hd (h p e s m args below meth c C H locs ls hH hS hL)
  · exact h.elim
theorem px_zero_cell {B t j : Nat} {cA : ClassId} {ty : FieldType} (ht : px_tys[t]? = some ty) (hlt : t < 4) : vp_cell cA (px_a B (j, px_zero t)) = arrV cA j (fun _ => defaultValue ty) := by
  rcases (show t = 0 ∨ t = 1 ∨ t = 2 ∨ t = 3 by omega) with rfl | rfl | rfl | rfl <;> cases ht <;> rfl
theorem px_s_newarray {ty : ArrayType} (hI : px_look (px_code M) pc = some (.newarray ty, nx, a, b, pos, v, f)) (h : px_wp mc ms (px_W G M d mc ms Post) (.newarray ty, nx, a, b, pos, v, f) k n pc pl st ph) : px_W G M d mc ms Post k n pc pl st ph := by
  intro p e s m args below meth c C H locs ls hH hS hL
  obtain ⟨hd, rfl, hw⟩ := px_dec (L := 2) C.2.2.2.2.2.2.2.2.2.2 hI rfl (by decide)
  simp only [px_wp] at h
  have h0 := h
  clear h
  obtain ⟨x, r, rfl, j, rfl, hj, hmc, hms, h⟩ := px_i1_e h0
  simp only [px_chkW, Bool.and_eq_true, decide_eq_true_eq] at hw
  have hc : (nI j).toNatClampNeg = j := nI_clamp (by omega)
  have hlt4 : a < 4 := by
    by_cases h4 : a < 4
    · exact h4
    · have hl := (List.getElem?_eq_some_iff.mp hw.1).1
      obtain ⟨CC, hCC⟩ := px_tys_ref (by omega) hl
      have := hCC.symm.trans hw.1
      cases ty <;> cases this
  have hbytes : j * componentBytes (newarray.typeOf ty) ≤ 536870912 := by
    have : componentBytes (newarray.typeOf ty) ≤ 8 := by cases ty <;> decide
    calc j * componentBytes (newarray.typeOf ty) ≤ 100000 * 8 := Nat.mul_le_mul hj this
      _ ≤ 536870912 := by decide
  refine va_newaK C.1 C.2.1 (C.2.2.2.2.1 _ (px_tbl_of hw.2 rfl)) rfl hd rfl (nI_pos (by omega)) hc hbytes hmc hms hH.1 fun H1 cA z1 z2 z3 hAr hNm => ?_
  have hcA : cA = G.2.2.1 a := by
    have h9 := (C.2.2.2.2.2.1.2 a _ (px_tyL_at hw.1)).2
    cases ty <;> exact Option.some.inj (hNm.symm.trans h9)
  subst hcA
  refine h p e s m args below meth c C H1 locs ls (hH.push ?_ (by rw [z2, hH.1]) (by rw [hH.1]; exact z3) (fun _ _ _ z => by cases z; omega)) ⟨Nat.le_trans hS.1 (by rw [z2, hH.1]; omega), fun q q1 q2 => (z3 q (by have := hS.1; rw [hH.1] at this; omega)).trans (hS.2.1 q q1 q2), hS.2.2⟩ hL
  show H1[_]? = some (vp_cell (G.2.2.1 a) (px_a G.2.2.2 (j, px_zero a)))
  rw [px_zero_cell hw.1 hlt4]
  exact z1
theorem px_s_anewarray {i : Nat} (hI : px_look (px_code M) pc = some (.anewarray i, nx, a, b, pos, v, f)) (h : px_wp mc ms (px_W G M d mc ms Post) (.anewarray i, nx, a, b, pos, v, f) k n pc pl st ph) : px_W G M d mc ms Post k n pc pl st ph := by
  intro p e s m args below meth c C H locs ls hH hS hL
  obtain ⟨hd, rfl, hw⟩ := px_dec (L := 3) C.2.2.2.2.2.2.2.2.2.2 hI rfl (by decide)
  simp only [px_wp] at h
  have h0 := h
  clear h
  obtain ⟨x, r, rfl, j, rfl, hj, hmc, hms, h⟩ := px_i1_e h0
  simp only [px_chkW] at hw
  split at hw
  · rename_i CC hCC
    simp only [Bool.and_eq_true, decide_eq_true_eq] at hw
    have hc : (nI j).toNatClampNeg = j := nI_clamp (by omega)
    refine W.anew C.1 C.2.1 C.2.2.2.1 (C.2.2.2.2.1 _ (px_tbl_of hw.1 rfl)) (va_AO.use (C.2.2.2.2.2.2.2.2.2.1.2.1 a CC hCC)) rfl hd rfl (nI_pos (by omega)) (by rw [hc]; omega) hmc (by rw [hc]; exact hms) fun cA kA comp f1 f2 f3 f4 => ?_
    have hcA : cA = G.2.2.1 a := by
      obtain ⟨_, _, _, _, _, h9⟩ := (C.2.2.2.2.2.1.2 a _ (px_tyL_at hCC)).2
      exact Option.some.inj (f1.symm.trans h9)
    subst hcA
    rw [hc, hH.1]
    have hsz : ∀ x : Cell, (H.push x).size = H.size + 1 := fun x => Array.size_push x
    refine h p e s m args below meth c C _ locs ls (hH.push ?_ (hsz _) (fun q hq => by rw [Array.getElem?_push, if_neg (Nat.ne_of_lt hq)]) (fun _ _ _ z => by cases z; omega)) ⟨Nat.le_trans hS.1 (by rw [hsz]; omega), fun q q1 q2 => by rw [Array.getElem?_push, if_neg (by have := hS.1; omega)]; exact hS.2.1 q q1 q2, hS.2.2⟩ hL
    show (H.push _)[_]? = some (vp_cell (G.2.2.1 a) (j, .inr (.inr (.inr (.inr (fun _ => none))))))
    rw [← hH.1, Array.getElem?_push_size, arrV_new]
    rfl
  · cases hw
theorem px_s_new {i : Nat} (hI : px_look (px_code M) pc = some (.new i, nx, a, b, pos, v, f)) (h : px_wp mc ms (px_W G M d mc ms Post) (.new i, nx, a, b, pos, v, f) k n pc pl st ph) : px_W G M d mc ms Post k n pc pl st ph := by
  intro p e s m args below meth c C H locs ls hH hS hL
  obtain ⟨hd, rfl, hw⟩ := px_dec (L := 3) C.2.2.2.2.2.2.2.2.2.2 hI rfl (by decide)
  simp only [px_wp] at h
  split at h
  · rename_i fs efs
    obtain ⟨hmc, hms, h⟩ := h
    rw [px_nth_eq] at efs
    simp only [px_chkW] at hw
    split at hw
    · rename_i q hq
      simp only [decide_eq_true_eq] at hw
      obtain ⟨q', ty, fs', _, efs', hins, hini, hws, hpd, hnm, hdf, hlen⟩ := px_chkC_at hq
      cases efs.symm.trans efs'
      have hts := C.2.2.2.2.1
      have hKn := C.2.2.2.2.2.1.1 a _ hq
      refine W.newcK C.1 C.2.1 C.2.2.2.1 (hts _ (px_tbl_of hw rfl)) (hts _ (px_tbl_of hins rfl)) (hts _ (px_tbl_of hini rfl)) rfl hd hmc (by rw [← hlen]; exact hms) hKn.2.1 hH.1 fun H1 kC hkC z1 z2 z3 => ?_
      rw [← hlen]
      refine h p e s m args below meth c C H1 locs ls (hH.push ⟨_, hq, ?_⟩ (by rw [z2, hH.1]) (by rw [hH.1]; exact z3) (fun _ _ _ z => by cases z)) ⟨Nat.le_trans hS.1 (by rw [z2, hH.1]; omega), fun q q1 q2 => (z3 q (by have := hS.1; rw [hH.1] at this; omega)).trans (hS.2.1 q q1 q2), hS.2.2⟩ hL
      refine (u_born ty hts hws hKn hkC z1 hpd).to (fun j hj => ?_)
      rw [hdf j hj]
      have hp : ∀ (l : List Value), l.map (px_v G.2.2.2) = l → vp_V l j = vp_V (l.map (px_v G.2.2.2)) j := fun l z => by rw [z]
      exact hp fs (px_dfl_v hq efs)
    · cases hw
  · exact h.elim
end PXH
