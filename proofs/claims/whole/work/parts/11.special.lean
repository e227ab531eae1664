theorem px_oi : Jvm.Cond.instanceMethod objectInit ∈ px_tbl ∧ Jvm.Cond.code objectInit ⟨#[0xb1]⟩ 1 none ∈ px_tbl := ⟨px_tbl_of (pos := 120) (by decide +kernel) rfl, px_tbl_of (pos := 121) (by decide +kernel) rfl⟩
theorem px_ac : Jvm.Cond.native arraycopyName ∈ px_tbl ∧ Jvm.Cond.static arraycopyName ∈ px_tbl ∧ Jvm.Cond.initialized "java/lang/System" ∈ px_tbl := ⟨px_tbl_of (pos := 547) (by decide +kernel) rfl, px_tbl_of (pos := 546) (by decide +kernel) rfl, px_tbl_of (pos := 109) (by decide +kernel) rfl⟩
theorem px_mm : Jvm.Cond.static Lib.Math.min.name ∈ px_tbl ∧ Jvm.Cond.initialized "java/lang/Math" ∈ px_tbl ∧ Jvm.Cond.code Lib.Math.min.name Lib.Math.min.code 2 (some .int) ∈ px_tbl := ⟨px_tbl_of (pos := 584) (by decide +kernel) rfl, px_tbl_of (pos := 111) (by decide +kernel) rfl, px_tbl_of (pos := 585) (by decide +kernel) rfl⟩
theorem px_cl : Jvm.Cond.sameMethod "[I" "java/lang/Object" "clone" "()Ljava/lang/Object;" ∈ px_tbl ∧ Jvm.Cond.native ⟨"java/lang/Object", "clone", "()Ljava/lang/Object;"⟩ ∈ px_tbl ∧ Jvm.Cond.instanceMethod ⟨"java/lang/Object", "clone", "()Ljava/lang/Object;"⟩ ∈ px_tbl ∧ Jvm.Cond.selects "[I" ⟨"[I", "clone", "()Ljava/lang/Object;"⟩ ⟨"java/lang/Object", "clone", "()Ljava/lang/Object;"⟩ ∈ px_tbl ∧ Jvm.Cond.castable "[I" "java/lang/Cloneable" ∈ lw_tbl := ⟨px_tbl_of (pos := 577) (by decide +kernel) rfl, px_tbl_of (pos := 578) (by decide +kernel) rfl, px_tbl_of (pos := 579) (by decide +kernel) rfl, px_tbl_of (pos := 580) (by decide +kernel) rfl, List.mem_of_getElem? (i := 581) (by decide +kernel)⟩
theorem px_ys_out : px_ys[9000]? = none ∧ px_ys[9001]? = none ∧ px_ys[9002]? = none ∧ px_ys[9003]? = none := ⟨by decide +kernel, by decide +kernel, by decide +kernel, by decide +kernel⟩
section PXX
variable {G : px_G} {M : px_M} {d mc ms : Nat} {Post : Option Value → List px_E → Prop} {k n pc nx a b pos f i o : Nat} {v : Int32} {pl : List (Option Value)} {rest : List Value} {ph : List px_E}
theorem px_objInit (hI : px_look (px_code M) pc = some (.invokespecial i, nx, 9000, b, pos, v, f)) (hd1 : 1 ≤ d) (hw : (rest.map fun v => v.category).sum ≤ 8) (h : px_W G M d mc ms Post k n nx pl rest ph) : px_W G M d mc ms Post k n pc pl (.ref o :: rest) ph := by
  intro p e s m args below meth c C H locs ls hH hS hL
  obtain ⟨hd, rfl, hw2⟩ := px_dec (L := 3) C.2.2.2.2.2.2.2.2.2.2 hI rfl (by decide)
  simp only [px_chkW, px_ys_out.1, decide_eq_true_eq] at hw2
  have hts := C.2.2.2.2.1
  refine W.objInit C.1 C.2.1 C.2.2.2.1 (hts _ (px_tbl_of hw2 rfl)) (hts _ px_oi.1) (hts _ px_oi.2) rfl (by rw [C.2.2.1]; exact hL.1) rfl hd hd1 ?_ (h p e s m args below meth c C H locs ls hH hS hL)
  show 2 * 0 + ((rest.map (px_v G.2.2.2)).map fun v => v.category).sum + 12 ≤ 48 * d
  rw [px_map_cat]
  omega
theorem px_min (hI : px_look (px_code M) pc = some (.invokestatic i, nx, 9003, b, pos, v, f)) (hd1 : 1 ≤ d) (hk : k ≤ mc) (hn : n ≤ ms) {x y : Int32} (hw : (rest.map fun v => v.category).sum ≤ 8) (h : px_W G M d mc ms Post k n nx pl (.int (if y < x then y else x) :: rest) ph) : px_W G M d mc ms Post k n pc pl (.int y :: .int x :: rest) ph := by
  intro p e s m args below meth c C H locs ls hH hS hL
  obtain ⟨hd, rfl, hw2⟩ := px_dec (L := 3) C.2.2.2.2.2.2.2.2.2.2 hI rfl (by decide)
  simp only [px_chkW, px_ys_out.2.2.2, decide_eq_true_eq] at hw2
  have hts := C.2.2.2.2.1
  refine va_mmin C.1 C.2.1 (by rw [C.2.2.1]; exact hL.1.symm) C.2.2.2.1 (hts _ (px_tbl_of hw2 rfl)) (hts _ px_mm.1) (hts _ px_mm.2.1) (hts _ px_mm.2.2) hd1 ?_ hk hn hd (h p e s m args below meth c C H locs ls hH hS hL)
  show ((rest.map (px_v G.2.2.2)).map fun v => v.category).sum + 13 ≤ 48 * d
  rw [px_map_cat]
  omega
/-- System.arraycopy of int arrays -/
theorem px_copyi (hI : px_look (px_code M) pc = some (.invokestatic i, nx, 9001, b, pos, v, f)) (hd1 : 1 ≤ d) {q0 q1 n0 n1 sp dp N : Nat} {F F' : Nat → Int32} (h0 : ph[q0]? = some (.inl (0, n0, .inl F))) (h1 : ph[q1]? = some (.inl (0, n1, .inl F'))) (h4 : sp + N ≤ n0) (h5 : dp + N ≤ n1) (hw : (rest.map fun v => v.category).sum ≤ 8)
    (h : px_W G M d mc ms Post k n nx pl rest (ph.set q1 (.inl (0, n1, .inl (va_cpy F F' sp dp N))))) : px_W G M d mc ms Post k n pc pl (.int (nI N) :: .int (nI dp) :: .ref q1 :: .int (nI sp) :: .ref q0 :: rest) ph := by
  intro p e s m args below meth c C H locs ls hH hS hL
  obtain ⟨hd, rfl, hw2⟩ := px_dec (L := 3) C.2.2.2.2.2.2.2.2.2.2 hI rfl (by decide)
  simp only [px_chkW, px_ys_out.2.1, decide_eq_true_eq] at hw2
  have hts := C.2.2.2.2.1
  have hK := C.2.2.2.2.2.1
  have hn0 := hH.2.2 _ _ _ _ h0
  have hn1 := hH.2.2 _ _ _ _ h1
  have csp : (nI sp).toNatClampNeg = sp := nI_clamp (by omega)
  have cdp : (nI dp).toNatClampNeg = dp := nI_clamp (by omega)
  have cN : (nI N).toNatClampNeg = N := nI_clamp (by omega)
  intro T hT X
  have hc0 : H[G.2.2.2 + q0]? = some (vp_cell (G.2.2.1 0) (n0, .inl F)) := hH.2.1 q0 _ h0
  have hc1 : H[G.2.2.2 + q1]? = some (vp_cell (G.2.2.1 0) (n1, .inl F')) := hH.2.1 q1 _ h1
  obtain ⟨-, k0, hk0, cm0, hkk0⟩ := (hK.2 0 _ (px_tyL_at rfl)).1 n0 (fun j => .int (F j))
  obtain ⟨-, k1, hk1, cm1, hkk1⟩ := (hK.2 0 _ (px_tyL_at rfl)).1 n1 (fun j => .int (F' j))
  obtain ⟨vm', X', step⟩ := X.arraycopy C.1 C.2.2.2.1 (hts _ (px_tbl_of hw2 rfl)) (hts _ px_ac.1) (hts _ px_ac.2.1) (hts _ px_ac.2.2) (src := G.2.2.2 + q0) (dst := G.2.2.2 + q1) (cs := vp_cell (G.2.2.1 0) (n0, .inl F)) (cd := vp_cell (G.2.2.1 0) (n1, .inl F')) (srcPos := nI sp) (destPos := nI dp) (n := nI N) (by rw [hT]; exact hc0) (by rw [hT]; exact hc1)
    (fun _ h => by cases h) (fun _ h => by cases h) (fun h => by cases h) (fun h => by cases h) hk0 hk1 hkk0 hkk1 rfl (nI_pos (by omega)) (nI_pos (by omega)) (nI_pos (by omega))
    (by rw [nI_toInt (by omega), nI_toInt (by omega)]; show ¬ _ > ((arrV (G.2.2.1 0) n0 (fun j => .int (F j))).slots.size : Int); rw [arrV_size]; omega)
    (by rw [nI_toInt (by omega), nI_toInt (by omega)]; show ¬ _ > ((arrV (G.2.2.1 0) n1 (fun j => .int (F' j))).slots.size : Int); rw [arrV_size]; omega)
    (fun vm₁ _ i hi => by
      have e : (vp_cell (G.2.2.1 0) (n0, .inl F)).slots.getD ((nI sp).toNatClampNeg + i) .null = .int (F ((nI sp).toNatClampNeg + i)) := by
        show (arrV (G.2.2.1 0) n0 (fun j => .int (F j))).slots.getD _ _ = _
        rw [Array.getD_eq_getD_getElem?, arrV_read _ _ (by rw [csp]; rw [cN] at hi; omega)]
        rfl
      refine ⟨?_, ?_⟩
      · rw [e]; rfl
      · rw [e]; exact trivial)
    (g := F0 m pc ls (.int (nI N) :: .int (nI dp) :: .ref (G.2.2.2 + q1) :: .int (nI sp) :: .ref (G.2.2.2 + q0) :: rest.map (px_v G.2.2.2))) rfl (by rw [C.2.2.1]; exact hL.1) (rest := rest.map (px_v G.2.2.2)) rfl (by rw [C.2.1]; exact hd) hd1
    (by
      show 2 * 0 + ((rest.map (px_v G.2.2.2)).map fun v => v.category).sum + (nativeFrameWords "java/lang/System" "arraycopy" 5 + 11) ≤ 48 * d
      rw [px_map_cat]
      have : nativeFrameWords "java/lang/System" "arraycopy" 5 + 11 = 18 := by decide
      omega)
  have e1 : copied (vp_cell (G.2.2.1 0) (n0, .inl F)) (vp_cell (G.2.2.1 0) (n1, .inl F')) (nI sp) (nI dp) (nI N) = vp_cell (G.2.2.1 0) (n1, .inl (va_cpy F F' (nI sp).toNatClampNeg (nI dp).toNatClampNeg (nI N).toNatClampNeg)) := va_copied (fun z => .int z) _ _ F F' (by rw [csp, cN]; exact h4)
  rw [csp, cdp, cN] at e1
  rw [e1] at X' step
  have hl : G.2.2.2 + q1 < H.size := (Array.getElem?_eq_some_iff.mp hc1).1
  have hheap : ((T.setVm vm').setCell (G.2.2.2 + q1) (vp_cell (G.2.2.1 0) (n1, .inl (va_cpy F F' sp dp N)))).heap = H.setIfInBounds (G.2.2.2 + q1) (vp_cell (G.2.2.1 0) (n1, .inl (va_cpy F F' sp dp N))) := by rw [← hT]; rfl
  have oq : ∀ q : Nat, q ≠ G.2.2.2 + q1 → (H.setIfInBounds (G.2.2.2 + q1) (vp_cell (G.2.2.1 0) (n1, .inl (va_cpy F F' sp dp N))))[q]? = H[q]? := fun q hq => by simp [Array.getElem?_setIfInBounds, Ne.symm hq]
  obtain ⟨t, a1, b1⟩ := h p e s m args below meth c C _ _ ls (hH.set h1 (show (H.setIfInBounds (G.2.2.2 + q1) _)[G.2.2.2 + q1]? = some _ by simp only [Array.getElem?_setIfInBounds_self_of_lt hl]; rfl) (by simp) oq (fun _ _ _ z => by cases z; exact hn1)) ⟨by simp; exact hS.1, fun q g1 g2 => by
      rw [oq q (fun e => g2 (by rw [e]; exact Nat.le_add_right _ _))]
      exact hS.2.1 q g1 g2, fun q hq => by
      rcases List.mem_append.mp hq with h | h
      · exact hS.2.2 q h
      · obtain ⟨z, -, hz⟩ := List.mem_map.mp h
        rw [← hz]
        exact Nat.le_add_right _ _⟩ hL _ hheap X'
  exact ⟨t, step t a1, b1⟩
/-- clone of an int array -/
theorem px_clone (hI : px_look (px_code M) pc = some (.invokevirtual i, nx, 9002, b, pos, v, f)) (hd1 : 1 ≤ d) {q0 n0 : Nat} {F : Nat → Int32} (h0 : ph[q0]? = some (.inl (0, n0, .inl F))) (hmc : k + 1 ≤ mc) (hms : n + n0 ≤ ms) (hw : (rest.map fun v => v.category).sum ≤ 8)
    (h : px_W G M d mc ms Post (k + 1) (n + n0) nx pl (.ref ph.length :: rest) (ph ++ [.inl (0, n0, .inl F)])) : px_W G M d mc ms Post k n pc pl (.ref q0 :: rest) ph := by
  intro p e s m args below meth c C H locs ls hH hS hL
  obtain ⟨hd, rfl, hw2⟩ := px_dec (L := 3) C.2.2.2.2.2.2.2.2.2.2 hI rfl (by decide)
  simp only [px_chkW, px_ys_out.2.2.1, decide_eq_true_eq] at hw2
  have hts := C.2.2.2.2.1
  have hK := C.2.2.2.2.2.1
  have hAO := C.2.2.2.2.2.2.2.2.2.1.2
  have hn0 := hH.2.2 _ _ _ _ h0
  have hnm : s.vm.findClass "[I" = some (G.2.2.1 0) := (hK.2 0 _ (px_tyL_at rfl)).2
  have hcl := hAO.2 _ px_cl.2.2.2.2 rfl
  obtain ⟨c0, t0', f1, f2, f3⟩ := Cond.castable_spec (va_Nw.use (A := args) rfl hcl)
  cases hnm.symm.trans f1
  intro T hT X
  have hc0 : H[G.2.2.2 + q0]? = some (vp_cell (G.2.2.1 0) (n0, .inl F)) := hH.2.1 q0 _ h0
  have hsz : (vp_cell (G.2.2.1 0) (n0, .inl F)).slots.size = n0 := arrV_size _ _ _
  have hcellT : T.heap[G.2.2.2 + q0]? = some (vp_cell (G.2.2.1 0) (n0, .inl F)) := by rw [hT]; exact hc0
  obtain ⟨-, kA, hkA, comp, hkind⟩ := State.isArrayOf_alike X.warmed.alike ((hK.2 0 _ (px_tyL_at rfl)).1 0 (fun _ => .null))
  obtain ⟨-, kS, hkS, compS, hkindS⟩ := (hK.2 0 _ (px_tyL_at rfl)).1 0 (fun _ => .null)
  obtain ⟨vm', X', st⟩ := X.cloneArray C.1 C.2.2.2.1 (hts _ (px_tbl_of hw2 rfl)) (hts _ px_cl.1) (hts _ px_cl.2.1) (hts _ px_cl.2.2.1) (hts _ px_cl.2.2.2.1) (a := G.2.2.2 + q0) (cell := vp_cell (G.2.2.1 0) (n0, .inl F)) hcellT (fun k h => by cases h) (fun h => by cases h) hnm f2 f3
    (fun i v hv => by
      have hk' : T.vm.classes[G.2.2.1 0]? = some kA := hkA
      have hlt : i < n0 := by rw [← hsz]; exact (Array.getElem?_eq_some_iff.mp hv).1
      have hv' : v = .int (F i) := by
        have := (arrV_read (G.2.2.1 0) (fun j => .int (F j)) hlt).symm.trans hv
        exact (Option.some.inj this).symm
      subst hv'
      show T.fitsSlot (G.2.2.1 0) _ _ _ = true
      simp [State.fitsSlot, State.slotType?, hk', hkind, vp_cell, arrV, fits])
    (g := F0 m pc ls (.ref (G.2.2.2 + q0) :: rest.map (px_v G.2.2.2))) rfl (by rw [C.2.2.1]; exact hL.1) rfl (by rw [C.2.1]; exact hd) hd1
    (by
      show 2 * 0 + ((rest.map (px_v G.2.2.2)).map fun v => v.category).sum + 14 ≤ 48 * d
      rw [px_map_cat]
      omega) hmc (by rw [hsz]; exact hms) (hloader := Vm.clonesLoader_of_array hkS hkindS)
  have hcellE : ({ cls := (vp_cell (G.2.2.1 0) (n0, .inl F)).cls, slots := (vp_cell (G.2.2.1 0) (n0, .inl F)).slots } : Cell) = vp_cell (G.2.2.1 0) (n0, .inl F) := rfl
  rw [hcellE, hsz] at X'
  have z1 : (H.push (vp_cell (G.2.2.1 0) (n0, .inl F))).size = H.size + 1 := Array.size_push _
  obtain ⟨t, b1, b2⟩ := h p e s m args below meth c C (H.push (vp_cell (G.2.2.1 0) (n0, .inl F))) locs ls (hH.push (show (H.push _)[_]? = some _ by rw [← hH.1, Array.getElem?_push_size]; rfl) z1 (fun q hq => by rw [Array.getElem?_push, if_neg (Nat.ne_of_lt hq)]) (fun _ _ _ z => by cases z; exact hn0)) ⟨Nat.le_trans hS.1 (by rw [z1]; omega), fun q q1 q2 => by rw [Array.getElem?_push, if_neg (by have := hS.1; omega)]; exact hS.2.1 q q1 q2, hS.2.2⟩ hL
    ((T.setVm vm').pushCell (vp_cell (G.2.2.1 0) (n0, .inl F))) (by rw [← hT]; rfl) X'
  refine ⟨t, st t ?_, b2⟩
  rw [hcellE, hT, hH.1]
  exact b1
theorem px_cast (hI : px_look (px_code M) pc = some (.checkcast i, nx, a, b, pos, v, f)) {q0 n0 : Nat} {F : Nat → Int32} (h0 : ph[q0]? = some (.inl (0, n0, .inl F))) (h : px_W G M d mc ms Post k n nx pl (.ref q0 :: rest) ph) : px_W G M d mc ms Post k n pc pl (.ref q0 :: rest) ph := by
  intro p e s m args below meth c C H locs ls hH hS hL
  obtain ⟨hd, rfl, hw2⟩ := px_dec (L := 3) C.2.2.2.2.2.2.2.2.2.2 hI rfl (by decide)
  simp only [px_chkW, decide_eq_true_eq] at hw2
  have hnm : s.vm.findClass "[I" = some (G.2.2.1 0) := (C.2.2.2.2.2.1.2 0 _ (px_tyL_at rfl)).2
  exact va_castA C.1 C.2.1 C.2.2.2.1 (C.2.2.2.2.1 _ (px_tbl_of hw2 rfl)) (hH.one h0) 0 rfl hnm hd (h p e s m args below meth c C H locs ls hH hS hL)
end PXX
