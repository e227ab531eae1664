/-! what the matches of px_wp give -/
theorem px_i1_e {st : List Value} {P : Int32 → List Value → Prop} (h : px_i1 st P) : ∃ x r, st = .int x :: r ∧ P x r := by
  unfold px_i1 at h
  split at h
  · exact ⟨_, _, rfl, h⟩
  · exact h.elim
theorem px_i2_e {st : List Value} {P : Int32 → Int32 → List Value → Prop} (h : px_i2 st P) : ∃ x y r, st = .int y :: .int x :: r ∧ P x y r := by
  unfold px_i2 at h
  split at h
  · exact ⟨_, _, _, rfl, h⟩
  · exact h.elim
theorem px_l1_e {st : List Value} {P : Int64 → List Value → Prop} (h : px_l1 st P) : ∃ x r, st = .long x :: r ∧ P x r := by
  unfold px_l1 at h
  split at h
  · exact ⟨_, _, rfl, h⟩
  · exact h.elim
theorem px_l2_e {st : List Value} {P : Int64 → Int64 → List Value → Prop} (h : px_l2 st P) : ∃ x y r, st = .long y :: .long x :: r ∧ P x y r := by
  unfold px_l2 at h
  split at h
  · exact ⟨_, _, _, rfl, h⟩
  · exact h.elim
theorem px_il_e {st : List Value} {P : Int64 → Int32 → List Value → Prop} (h : px_il st P) : ∃ x y r, st = .int y :: .long x :: r ∧ P x y r := by
  unfold px_il at h
  split at h
  · exact ⟨_, _, _, rfl, h⟩
  · exact h.elim
theorem px_a1_e {st : List Value} {P : Value → List Value → Prop} (h : px_a1 st P) : ∃ x r, st = x :: r ∧ ((∃ o, x = .ref o) ∨ x = .null) ∧ P x r := by
  unfold px_a1 at h
  split at h
  · exact ⟨_, _, rfl, Or.inl ⟨_, rfl⟩, h⟩
  · exact ⟨_, _, rfl, Or.inr rfl, h⟩
  · exact h.elim
theorem px_r1_e {st : List Value} {P : Nat → List Value → Prop} (h : px_r1 st P) : ∃ x r, st = .ref x :: r ∧ P x r := by
  unfold px_r1 at h
  split at h
  · exact ⟨_, _, rfl, h⟩
  · exact h.elim
theorem px_r2_e {st : List Value} {P : Value → Nat → List Value → Prop} (h : px_r2 st P) : ∃ v x r, st = v :: .ref x :: r ∧ P v x r := by
  unfold px_r2 at h
  split at h
  · exact ⟨_, _, _, rfl, h⟩
  · exact h.elim
theorem px_ir_e {st : List Value} {P : Nat → Int32 → List Value → Prop} (h : px_ir st P) : ∃ x i r, st = .int i :: .ref x :: r ∧ P x i r := by
  unfold px_ir at h
  split at h
  · exact ⟨_, _, _, rfl, h⟩
  · exact h.elim
theorem px_vir_e {st : List Value} {P : Nat → Int32 → Value → List Value → Prop} (h : px_vir st P) : ∃ x i v r, st = v :: .int i :: .ref x :: r ∧ P x i v r := by
  unfold px_vir at h
  split at h
  · exact ⟨_, _, _, _, rfl, h⟩
  · exact h.elim
theorem px_g_e {v : Value} {P : Prop} (h : px_g v P) : v.category = 1 ∧ P := by
  unfold px_g at h
  split at h
  · exact ⟨rfl, h⟩
  · exact ⟨rfl, h⟩
  · exact ⟨rfl, h⟩
  · exact h.elim
theorem px_v1_e {st : List Value} {P : Value → List Value → Prop} (h : px_v1 st P) : ∃ x r, st = x :: r ∧ x.category = 1 ∧ P x r := by
  unfold px_v1 at h
  split at h
  · exact ⟨_, _, rfl, (px_g_e h).1, (px_g_e h).2⟩
  · exact h.elim
theorem px_v2_e {st : List Value} {P : Value → Value → List Value → Prop} (h : px_v2 st P) : ∃ x y r, st = x :: y :: r ∧ x.category = 1 ∧ y.category = 1 ∧ P x y r := by
  unfold px_v2 at h
  split at h
  · exact ⟨_, _, _, rfl, (px_g_e h).1, (px_g_e (px_g_e h).2).1, (px_g_e (px_g_e h).2).2⟩
  · exact h.elim
theorem px_ldi_e {pl : List (Option Value)} {i : Nat} {P : Int32 → Prop} (h : px_ldi pl i P) : ∃ x, px_at pl i = some (.int x) ∧ P x := by
  unfold px_ldi at h
  split at h
  · rename_i e; exact ⟨_, e, h⟩
  · exact h.elim
theorem px_ldl_e {pl : List (Option Value)} {i : Nat} {P : Int64 → Prop} (h : px_ldl pl i P) : ∃ x, px_at pl i = some (.long x) ∧ P x := by
  unfold px_ldl at h
  split at h
  · rename_i e; exact ⟨_, e, h⟩
  · exact h.elim
theorem px_lda_e {pl : List (Option Value)} {i : Nat} {P : Value → Prop} (h : px_lda pl i P) : (∃ x, px_at pl i = some (.ref x) ∧ P (.ref x)) ∨ (px_at pl i = some .null ∧ P .null) := by
  unfold px_lda at h
  split at h
  · rename_i e; exact Or.inl ⟨_, e, h⟩
  · rename_i e; exact Or.inr ⟨e, h⟩
  · exact h.elim
theorem px_gf_e {ph : List px_E} {o a b : Nat} {P : Value → Prop} (h : px_gf ph o a b P) : ∃ fs v, ph[o]? = some (.inr (a, fs)) ∧ fs[b]? = some v ∧ P v := by
  unfold px_gf at h
  split at h
  · rename_i q e
    obtain ⟨h1, h2⟩ := h
    obtain ⟨ci, fs⟩ := q
    simp only at h1 h2
    subst h1
    split at h2
    · rename_i v e2
      exact ⟨fs, v, e, by rw [← px_nth_eq]; exact e2, h2⟩
    · exact h2.elim
  · exact h.elim
theorem px_ar_e {ph : List px_E} {o : Nat} {i : Int32} {P : _} (h : px_ar ph o i P) : ∃ t n c j, ph[o]? = some (.inl (t, n, c)) ∧ i = nI j ∧ j < n ∧ P t n c j := by
  unfold px_ar at h
  split at h
  · rename_i q e
    obtain ⟨j, h1, h2, h3⟩ := h
    exact ⟨q.1, q.2.1, q.2.2, j, e, h1, h2, h3⟩
  · exact h.elim
theorem px_map_cat (B : Nat) (l : List Value) : ((l.map (px_v B)).map fun v => v.category) = l.map fun v => v.category := by
  rw [List.map_map]; exact List.map_congr_left (fun v _ => px_v_cat B v)
section PXS
variable {G : px_G} {M : px_M} {d mc ms : Nat} {Post : Option Value → List px_E → Prop} {k n pc nx a b pos f : Nat} {v : Int32} {pl : List (Option Value)} {st : List Value} {ph : List px_E}
theorem px_s_iconst {c : Int} (hI : px_look (px_code M) pc = some (.iconst c, nx, a, b, pos, v, f)) (h : px_wp mc ms (px_W G M d mc ms Post) (.iconst c, nx, a, b, pos, v, f) k n pc pl st ph) : px_W G M d mc ms Post k n pc pl st ph := by
  intro p e s m args below meth cc C H locs ls hH hS hL
  obtain ⟨hd, rfl, hw⟩ := px_dec (L := 1) C.2.2.2.2.2.2.2.2.2.2 hI rfl (by decide)
  simp only [px_chkW, decide_eq_true_eq] at hw
  exact lv_iconst C.1 C.2.1 hd hw (h p e s m args below meth cc C H locs ls hH hS hL)
theorem px_s_bipush {c : Int} (hI : px_look (px_code M) pc = some (.bipush c, nx, a, b, pos, v, f)) (h : px_wp mc ms (px_W G M d mc ms Post) (.bipush c, nx, a, b, pos, v, f) k n pc pl st ph) : px_W G M d mc ms Post k n pc pl st ph := by
  intro p e s m args below meth cc C H locs ls hH hS hL
  obtain ⟨hd, rfl, hw⟩ := px_dec (L := 2) C.2.2.2.2.2.2.2.2.2.2 hI rfl (by decide)
  simp only [px_chkW, decide_eq_true_eq] at hw
  exact lv_bipush C.1 C.2.1 hd hw (h p e s m args below meth cc C H locs ls hH hS hL)
theorem px_s_sipush {c : Int} (hI : px_look (px_code M) pc = some (.sipush c, nx, a, b, pos, v, f)) (h : px_wp mc ms (px_W G M d mc ms Post) (.sipush c, nx, a, b, pos, v, f) k n pc pl st ph) : px_W G M d mc ms Post k n pc pl st ph := by
  intro p e s m args below meth cc C H locs ls hH hS hL
  obtain ⟨hd, rfl, hw⟩ := px_dec (L := 3) C.2.2.2.2.2.2.2.2.2.2 hI rfl (by decide)
  simp only [px_chkW, decide_eq_true_eq] at hw
  exact lv_sipush C.1 C.2.1 hd hw (h p e s m args below meth cc C H locs ls hH hS hL)
theorem px_s_lconst {c : Fin 2} (hI : px_look (px_code M) pc = some (.lconst c, nx, a, b, pos, v, f)) (h : px_wp mc ms (px_W G M d mc ms Post) (.lconst c, nx, a, b, pos, v, f) k n pc pl st ph) : px_W G M d mc ms Post k n pc pl st ph := by
  intro p e s m args below meth cc C H locs ls hH hS hL
  obtain ⟨hd, rfl, hw⟩ := px_dec (L := 1) C.2.2.2.2.2.2.2.2.2.2 hI rfl (by decide)
  exact lv_lconst C.1 C.2.1 hd rfl (h p e s m args below meth cc C H locs ls hH hS hL)
theorem px_s_null (hI : px_look (px_code M) pc = some (.aconst_null, nx, a, b, pos, v, f)) (h : px_wp mc ms (px_W G M d mc ms Post) (.aconst_null, nx, a, b, pos, v, f) k n pc pl st ph) : px_W G M d mc ms Post k n pc pl st ph := by
  intro p e s m args below meth c C H locs ls hH hS hL
  obtain ⟨hd, rfl, hw⟩ := px_dec (L := 1) C.2.2.2.2.2.2.2.2.2.2 hI rfl (by decide)
  exact lv_null C.1 C.2.1 hd (h p e s m args below meth c C H locs ls hH hS hL)
theorem px_s_ldc {i : Nat} (hI : px_look (px_code M) pc = some (.ldc i, nx, a, b, pos, v, f)) (h : px_wp mc ms (px_W G M d mc ms Post) (.ldc i, nx, a, b, pos, v, f) k n pc pl st ph) : px_W G M d mc ms Post k n pc pl st ph := by
  intro p e s m args below meth c C H locs ls hH hS hL
  obtain ⟨hd, rfl, hw⟩ := px_dec (L := 2) C.2.2.2.2.2.2.2.2.2.2 hI rfl (by decide)
  simp only [px_chkW, decide_eq_true_eq] at hw
  exact lv_ldc C.1 C.2.1 C.2.2.2.1 (C.2.2.2.2.1 _ (px_tbl_of hw rfl)) hd (h p e s m args below meth c C H locs ls hH hS hL)
theorem px_s_ldc_w {i : Nat} (hI : px_look (px_code M) pc = some (.ldc_w i, nx, a, b, pos, v, f)) (h : px_wp mc ms (px_W G M d mc ms Post) (.ldc_w i, nx, a, b, pos, v, f) k n pc pl st ph) : px_W G M d mc ms Post k n pc pl st ph := by
  intro p e s m args below meth c C H locs ls hH hS hL
  obtain ⟨hd, rfl, hw⟩ := px_dec (L := 3) C.2.2.2.2.2.2.2.2.2.2 hI rfl (by decide)
  simp only [px_chkW, decide_eq_true_eq] at hw
  exact lv_ldcw C.1 C.2.1 C.2.2.2.1 (C.2.2.2.2.1 _ (px_tbl_of hw rfl)) hd (h p e s m args below meth c C H locs ls hH hS hL)
theorem px_s_ldc2_w {i : Nat} (hI : px_look (px_code M) pc = some (.ldc2_w i, nx, a, b, pos, v, f)) (h : px_wp mc ms (px_W G M d mc ms Post) (.ldc2_w i, nx, a, b, pos, v, f) k n pc pl st ph) : px_W G M d mc ms Post k n pc pl st ph := by
  intro p e s m args below meth c C H locs ls hH hS hL
  obtain ⟨hd, rfl, hw⟩ := px_dec (L := 3) C.2.2.2.2.2.2.2.2.2.2 hI rfl (by decide)
  simp only [px_chkW, decide_eq_true_eq] at hw
  exact lv_ldc2 C.1 C.2.1 C.2.2.2.1 (C.2.2.2.2.1 _ (px_tbl_of hw rfl)) hd (h p e s m args below meth c C H locs ls hH hS hL)
theorem px_s_iload {i : Nat} (hI : px_look (px_code M) pc = some (.iload i, nx, a, b, pos, v, f)) (h : px_wp mc ms (px_W G M d mc ms Post) (.iload i, nx, a, b, pos, v, f) k n pc pl st ph) : px_W G M d mc ms Post k n pc pl st ph := by
  intro p e s m args below meth c C H locs ls hH hS hL
  obtain ⟨hd, rfl, hw⟩ := px_dec (L := 2) C.2.2.2.2.2.2.2.2.2.2 hI rfl (by decide)
  obtain ⟨x, e1, h⟩ := px_ldi_e h
  exact lv_iload C.1 C.2.1 hd (hL.at e1) (h p e s m args below meth c C H locs ls hH hS hL)
theorem px_s_iload_n {i : Fin 4} (hI : px_look (px_code M) pc = some (.iload_n i, nx, a, b, pos, v, f)) (h : px_wp mc ms (px_W G M d mc ms Post) (.iload_n i, nx, a, b, pos, v, f) k n pc pl st ph) : px_W G M d mc ms Post k n pc pl st ph := by
  intro p e s m args below meth c C H locs ls hH hS hL
  obtain ⟨hd, rfl, hw⟩ := px_dec (L := 1) C.2.2.2.2.2.2.2.2.2.2 hI rfl (by decide)
  obtain ⟨x, e1, h⟩ := px_ldi_e h
  exact lv_iload_n C.1 C.2.1 hd rfl (hL.at e1) (h p e s m args below meth c C H locs ls hH hS hL)
theorem px_s_lload {i : Nat} (hI : px_look (px_code M) pc = some (.lload i, nx, a, b, pos, v, f)) (h : px_wp mc ms (px_W G M d mc ms Post) (.lload i, nx, a, b, pos, v, f) k n pc pl st ph) : px_W G M d mc ms Post k n pc pl st ph := by
  intro p e s m args below meth c C H locs ls hH hS hL
  obtain ⟨hd, rfl, hw⟩ := px_dec (L := 2) C.2.2.2.2.2.2.2.2.2.2 hI rfl (by decide)
  obtain ⟨x, e1, h⟩ := px_ldl_e h
  exact lv_lload C.1 C.2.1 hd (hL.at e1) (h p e s m args below meth c C H locs ls hH hS hL)
theorem px_s_lload_n {i : Fin 4} (hI : px_look (px_code M) pc = some (.lload_n i, nx, a, b, pos, v, f)) (h : px_wp mc ms (px_W G M d mc ms Post) (.lload_n i, nx, a, b, pos, v, f) k n pc pl st ph) : px_W G M d mc ms Post k n pc pl st ph := by
  intro p e s m args below meth c C H locs ls hH hS hL
  obtain ⟨hd, rfl, hw⟩ := px_dec (L := 1) C.2.2.2.2.2.2.2.2.2.2 hI rfl (by decide)
  obtain ⟨x, e1, h⟩ := px_ldl_e h
  exact lv_lload_n C.1 C.2.1 hd rfl (hL.at e1) (h p e s m args below meth c C H locs ls hH hS hL)
theorem px_s_aload {i : Nat} (hI : px_look (px_code M) pc = some (.aload i, nx, a, b, pos, v, f)) (h : px_wp mc ms (px_W G M d mc ms Post) (.aload i, nx, a, b, pos, v, f) k n pc pl st ph) : px_W G M d mc ms Post k n pc pl st ph := by
  intro p e s m args below meth c C H locs ls hH hS hL
  obtain ⟨hd, rfl, hw⟩ := px_dec (L := 2) C.2.2.2.2.2.2.2.2.2.2 hI rfl (by decide)
  rcases px_lda_e (show px_lda pl i (fun x => px_W G M d mc ms Post k n _ pl (x :: st) ph) from h) with ⟨x, e1, h⟩ | ⟨e1, h⟩
  · exact lv_aload C.1 C.2.1 hd (hL.at e1) (h p e s m args below meth c C H locs ls hH hS hL)
  · exact lv_aloadN C.1 C.2.1 hd (hL.at e1) (h p e s m args below meth c C H locs ls hH hS hL)
theorem px_s_aload_n {i : Fin 4} (hI : px_look (px_code M) pc = some (.aload_n i, nx, a, b, pos, v, f)) (h : px_wp mc ms (px_W G M d mc ms Post) (.aload_n i, nx, a, b, pos, v, f) k n pc pl st ph) : px_W G M d mc ms Post k n pc pl st ph := by
  intro p e s m args below meth c C H locs ls hH hS hL
  obtain ⟨hd, rfl, hw⟩ := px_dec (L := 1) C.2.2.2.2.2.2.2.2.2.2 hI rfl (by decide)
  rcases px_lda_e (show px_lda pl i.val (fun x => px_W G M d mc ms Post k n _ pl (x :: st) ph) from h) with ⟨x, e1, h⟩ | ⟨e1, h⟩
  · exact lv_aload_n C.1 C.2.1 hd rfl (hL.at e1) (h p e s m args below meth c C H locs ls hH hS hL)
  · exact lv_aload_nN C.1 C.2.1 hd rfl (hL.at e1) (h p e s m args below meth c C H locs ls hH hS hL)
theorem px_s_istore {i : Nat} (hI : px_look (px_code M) pc = some (.istore i, nx, a, b, pos, v, f)) (h : px_wp mc ms (px_W G M d mc ms Post) (.istore i, nx, a, b, pos, v, f) k n pc pl st ph) : px_W G M d mc ms Post k n pc pl st ph := by
  intro p e s m args below meth c C H locs ls hH hS hL
  obtain ⟨hd, rfl, hw⟩ := px_dec (L := 2) C.2.2.2.2.2.2.2.2.2.2 hI rfl (by decide)
  simp only [px_chkW, decide_eq_true_eq] at hw
  obtain ⟨x, r, rfl, h⟩ := px_i1_e h
  exact lv_istore C.1 C.2.1 hd hL.has hw rfl (fun ls hl => h p e s m args below meth c C H locs ls hH hS (px_ls.store rfl hl))
theorem px_s_istore_n {i : Fin 4} (hI : px_look (px_code M) pc = some (.istore_n i, nx, a, b, pos, v, f)) (h : px_wp mc ms (px_W G M d mc ms Post) (.istore_n i, nx, a, b, pos, v, f) k n pc pl st ph) : px_W G M d mc ms Post k n pc pl st ph := by
  intro p e s m args below meth c C H locs ls hH hS hL
  obtain ⟨hd, rfl, hw⟩ := px_dec (L := 1) C.2.2.2.2.2.2.2.2.2.2 hI rfl (by decide)
  simp only [px_chkW, decide_eq_true_eq] at hw
  obtain ⟨x, r, rfl, h⟩ := px_i1_e h
  exact lv_istore_n C.1 C.2.1 hd rfl hL.has hw rfl (fun ls hl => h p e s m args below meth c C H locs ls hH hS (px_ls.store rfl hl))
theorem px_s_lstore {i : Nat} (hI : px_look (px_code M) pc = some (.lstore i, nx, a, b, pos, v, f)) (h : px_wp mc ms (px_W G M d mc ms Post) (.lstore i, nx, a, b, pos, v, f) k n pc pl st ph) : px_W G M d mc ms Post k n pc pl st ph := by
  intro p e s m args below meth c C H locs ls hH hS hL
  obtain ⟨hd, rfl, hw⟩ := px_dec (L := 2) C.2.2.2.2.2.2.2.2.2.2 hI rfl (by decide)
  simp only [px_chkW, decide_eq_true_eq] at hw
  obtain ⟨x, r, rfl, h⟩ := px_l1_e h
  exact lv_lstore C.1 C.2.1 hd hL.has hw rfl (fun ls hl => h p e s m args below meth c C H locs ls hH hS (px_ls.store2 rfl hl))
theorem px_s_lstore_n {i : Fin 4} (hI : px_look (px_code M) pc = some (.lstore_n i, nx, a, b, pos, v, f)) (h : px_wp mc ms (px_W G M d mc ms Post) (.lstore_n i, nx, a, b, pos, v, f) k n pc pl st ph) : px_W G M d mc ms Post k n pc pl st ph := by
  intro p e s m args below meth c C H locs ls hH hS hL
  obtain ⟨hd, rfl, hw⟩ := px_dec (L := 1) C.2.2.2.2.2.2.2.2.2.2 hI rfl (by decide)
  simp only [px_chkW, decide_eq_true_eq] at hw
  obtain ⟨x, r, rfl, h⟩ := px_l1_e h
  exact lv_lstore_n C.1 C.2.1 hd rfl hL.has hw rfl (fun ls hl => h p e s m args below meth c C H locs ls hH hS (px_ls.store2 rfl hl))
theorem px_s_astore {i : Nat} (hI : px_look (px_code M) pc = some (.astore i, nx, a, b, pos, v, f)) (h : px_wp mc ms (px_W G M d mc ms Post) (.astore i, nx, a, b, pos, v, f) k n pc pl st ph) : px_W G M d mc ms Post k n pc pl st ph := by
  intro p e s m args below meth c C H locs ls hH hS hL
  obtain ⟨hd, rfl, hw⟩ := px_dec (L := 2) C.2.2.2.2.2.2.2.2.2.2 hI rfl (by decide)
  simp only [px_chkW, decide_eq_true_eq] at hw
  obtain ⟨x, r, rfl, ⟨o, rfl⟩ | rfl, h⟩ := px_a1_e (show px_a1 st (fun x r => px_W G M d mc ms Post k n _ (px_set pl i x) r ph) from h)
  · exact lv_astore C.1 C.2.1 hd hL.has hw rfl (fun ls hl => h p e s m args below meth c C H locs ls hH hS (px_ls.store rfl hl))
  · exact lv_astoreN C.1 C.2.1 hd hL.has hw rfl (fun ls hl => h p e s m args below meth c C H locs ls hH hS (px_ls.store rfl hl))
theorem px_s_astore_n {i : Fin 4} (hI : px_look (px_code M) pc = some (.astore_n i, nx, a, b, pos, v, f)) (h : px_wp mc ms (px_W G M d mc ms Post) (.astore_n i, nx, a, b, pos, v, f) k n pc pl st ph) : px_W G M d mc ms Post k n pc pl st ph := by
  intro p e s m args below meth c C H locs ls hH hS hL
  obtain ⟨hd, rfl, hw⟩ := px_dec (L := 1) C.2.2.2.2.2.2.2.2.2.2 hI rfl (by decide)
  simp only [px_chkW, decide_eq_true_eq] at hw
  obtain ⟨x, r, rfl, ⟨o, rfl⟩ | rfl, h⟩ := px_a1_e (show px_a1 st (fun x r => px_W G M d mc ms Post k n _ (px_set pl i x) r ph) from h)
  · exact lv_astore_n C.1 C.2.1 hd rfl hL.has hw rfl (fun ls hl => h p e s m args below meth c C H locs ls hH hS (px_ls.store rfl hl))
  · exact lv_astore_nN C.1 C.2.1 hd rfl hL.has hw rfl (fun ls hl => h p e s m args below meth c C H locs ls hH hS (px_ls.store rfl hl))
theorem px_s_iinc {i : Nat} {c : Int} (hI : px_look (px_code M) pc = some (.iinc i c, nx, a, b, pos, v, f)) (h : px_wp mc ms (px_W G M d mc ms Post) (.iinc i c, nx, a, b, pos, v, f) k n pc pl st ph) : px_W G M d mc ms Post k n pc pl st ph := by
  intro p e s m args below meth cc C H locs ls hH hS hL
  obtain ⟨hd, rfl, hw⟩ := px_dec (L := 3) C.2.2.2.2.2.2.2.2.2.2 hI rfl (by decide)
  simp only [px_chkW, Bool.and_eq_true, decide_eq_true_eq] at hw
  obtain ⟨x, e1, h⟩ := px_ldi_e h
  obtain ⟨q, hq⟩ := List.getElem?_of_mem (px_lv_mem (B := G.2.2.2) (q := (i, .int x)) |>.mpr ⟨.int x, px_at_eq _ _ _ e1, rfl⟩)
  exact lv_iinc C.1 C.2.1 hd hL.has hq (by rw [hw.1]) hw.2 rfl (fun ls hl => h p e s m args below meth cc C H locs ls hH hS (px_ls.store rfl hl))
theorem px_s_iadd (hI : px_look (px_code M) pc = some (.iadd, nx, a, b, pos, v, f)) (h : px_wp mc ms (px_W G M d mc ms Post) (.iadd, nx, a, b, pos, v, f) k n pc pl st ph) : px_W G M d mc ms Post k n pc pl st ph := by
  intro p e s m args below meth c C H locs ls hH hS hL
  obtain ⟨hd, rfl, hw⟩ := px_dec (L := 1) C.2.2.2.2.2.2.2.2.2.2 hI rfl (by decide)
  obtain ⟨x, y, r, rfl, h⟩ := px_i2_e h
  exact lv_iadd C.1 C.2.1 hd (h p e s m args below meth c C H locs ls hH hS hL)
theorem px_s_isub (hI : px_look (px_code M) pc = some (.isub, nx, a, b, pos, v, f)) (h : px_wp mc ms (px_W G M d mc ms Post) (.isub, nx, a, b, pos, v, f) k n pc pl st ph) : px_W G M d mc ms Post k n pc pl st ph := by
  intro p e s m args below meth c C H locs ls hH hS hL
  obtain ⟨hd, rfl, hw⟩ := px_dec (L := 1) C.2.2.2.2.2.2.2.2.2.2 hI rfl (by decide)
  obtain ⟨x, y, r, rfl, h⟩ := px_i2_e h
  exact lv_isub C.1 C.2.1 hd (h p e s m args below meth c C H locs ls hH hS hL)
theorem px_s_imul (hI : px_look (px_code M) pc = some (.imul, nx, a, b, pos, v, f)) (h : px_wp mc ms (px_W G M d mc ms Post) (.imul, nx, a, b, pos, v, f) k n pc pl st ph) : px_W G M d mc ms Post k n pc pl st ph := by
  intro p e s m args below meth c C H locs ls hH hS hL
  obtain ⟨hd, rfl, hw⟩ := px_dec (L := 1) C.2.2.2.2.2.2.2.2.2.2 hI rfl (by decide)
  obtain ⟨x, y, r, rfl, h⟩ := px_i2_e h
  exact lv_imul C.1 C.2.1 hd (h p e s m args below meth c C H locs ls hH hS hL)
theorem px_s_iand (hI : px_look (px_code M) pc = some (.iand, nx, a, b, pos, v, f)) (h : px_wp mc ms (px_W G M d mc ms Post) (.iand, nx, a, b, pos, v, f) k n pc pl st ph) : px_W G M d mc ms Post k n pc pl st ph := by
  intro p e s m args below meth c C H locs ls hH hS hL
  obtain ⟨hd, rfl, hw⟩ := px_dec (L := 1) C.2.2.2.2.2.2.2.2.2.2 hI rfl (by decide)
  obtain ⟨x, y, r, rfl, h⟩ := px_i2_e h
  exact lv_iand C.1 C.2.1 hd (h p e s m args below meth c C H locs ls hH hS hL)
theorem px_s_ior (hI : px_look (px_code M) pc = some (.ior, nx, a, b, pos, v, f)) (h : px_wp mc ms (px_W G M d mc ms Post) (.ior, nx, a, b, pos, v, f) k n pc pl st ph) : px_W G M d mc ms Post k n pc pl st ph := by
  intro p e s m args below meth c C H locs ls hH hS hL
  obtain ⟨hd, rfl, hw⟩ := px_dec (L := 1) C.2.2.2.2.2.2.2.2.2.2 hI rfl (by decide)
  obtain ⟨x, y, r, rfl, h⟩ := px_i2_e h
  exact lv_ior C.1 C.2.1 hd (h p e s m args below meth c C H locs ls hH hS hL)
theorem px_s_ixor (hI : px_look (px_code M) pc = some (.ixor, nx, a, b, pos, v, f)) (h : px_wp mc ms (px_W G M d mc ms Post) (.ixor, nx, a, b, pos, v, f) k n pc pl st ph) : px_W G M d mc ms Post k n pc pl st ph := by
  intro p e s m args below meth c C H locs ls hH hS hL
  obtain ⟨hd, rfl, hw⟩ := px_dec (L := 1) C.2.2.2.2.2.2.2.2.2.2 hI rfl (by decide)
  obtain ⟨x, y, r, rfl, h⟩ := px_i2_e h
  exact lv_ixor C.1 C.2.1 hd (h p e s m args below meth c C H locs ls hH hS hL)
theorem px_s_ishl (hI : px_look (px_code M) pc = some (.ishl, nx, a, b, pos, v, f)) (h : px_wp mc ms (px_W G M d mc ms Post) (.ishl, nx, a, b, pos, v, f) k n pc pl st ph) : px_W G M d mc ms Post k n pc pl st ph := by
  intro p e s m args below meth c C H locs ls hH hS hL
  obtain ⟨hd, rfl, hw⟩ := px_dec (L := 1) C.2.2.2.2.2.2.2.2.2.2 hI rfl (by decide)
  obtain ⟨x, y, r, rfl, h⟩ := px_i2_e h
  exact lv_ishl C.1 C.2.1 hd (h p e s m args below meth c C H locs ls hH hS hL)
theorem px_s_ishr (hI : px_look (px_code M) pc = some (.ishr, nx, a, b, pos, v, f)) (h : px_wp mc ms (px_W G M d mc ms Post) (.ishr, nx, a, b, pos, v, f) k n pc pl st ph) : px_W G M d mc ms Post k n pc pl st ph := by
  intro p e s m args below meth c C H locs ls hH hS hL
  obtain ⟨hd, rfl, hw⟩ := px_dec (L := 1) C.2.2.2.2.2.2.2.2.2.2 hI rfl (by decide)
  obtain ⟨x, y, r, rfl, h⟩ := px_i2_e h
  exact lv_ishr C.1 C.2.1 hd (h p e s m args below meth c C H locs ls hH hS hL)
theorem px_s_iushr (hI : px_look (px_code M) pc = some (.iushr, nx, a, b, pos, v, f)) (h : px_wp mc ms (px_W G M d mc ms Post) (.iushr, nx, a, b, pos, v, f) k n pc pl st ph) : px_W G M d mc ms Post k n pc pl st ph := by
  intro p e s m args below meth c C H locs ls hH hS hL
  obtain ⟨hd, rfl, hw⟩ := px_dec (L := 1) C.2.2.2.2.2.2.2.2.2.2 hI rfl (by decide)
  obtain ⟨x, y, r, rfl, h⟩ := px_i2_e h
  exact lv_iushr C.1 C.2.1 hd rfl (h p e s m args below meth c C H locs ls hH hS hL)
theorem px_s_idiv (hI : px_look (px_code M) pc = some (.idiv, nx, a, b, pos, v, f)) (h : px_wp mc ms (px_W G M d mc ms Post) (.idiv, nx, a, b, pos, v, f) k n pc pl st ph) : px_W G M d mc ms Post k n pc pl st ph := by
  intro p e s m args below meth c C H locs ls hH hS hL
  obtain ⟨hd, rfl, hw⟩ := px_dec (L := 1) C.2.2.2.2.2.2.2.2.2.2 hI rfl (by decide)
  obtain ⟨x, y, r, rfl, hz, h⟩ := px_i2_e h
  exact lv_idiv C.1 C.2.1 hd hz (h p e s m args below meth c C H locs ls hH hS hL)
theorem px_s_irem (hI : px_look (px_code M) pc = some (.irem, nx, a, b, pos, v, f)) (h : px_wp mc ms (px_W G M d mc ms Post) (.irem, nx, a, b, pos, v, f) k n pc pl st ph) : px_W G M d mc ms Post k n pc pl st ph := by
  intro p e s m args below meth c C H locs ls hH hS hL
  obtain ⟨hd, rfl, hw⟩ := px_dec (L := 1) C.2.2.2.2.2.2.2.2.2.2 hI rfl (by decide)
  obtain ⟨x, y, r, rfl, hz, h⟩ := px_i2_e h
  exact lv_irem C.1 C.2.1 hd hz (h p e s m args below meth c C H locs ls hH hS hL)
theorem px_s_lor (hI : px_look (px_code M) pc = some (.lor, nx, a, b, pos, v, f)) (h : px_wp mc ms (px_W G M d mc ms Post) (.lor, nx, a, b, pos, v, f) k n pc pl st ph) : px_W G M d mc ms Post k n pc pl st ph := by
  intro p e s m args below meth c C H locs ls hH hS hL
  obtain ⟨hd, rfl, hw⟩ := px_dec (L := 1) C.2.2.2.2.2.2.2.2.2.2 hI rfl (by decide)
  obtain ⟨x, y, r, rfl, h⟩ := px_l2_e h
  exact lv_lor C.1 C.2.1 hd (h p e s m args below meth c C H locs ls hH hS hL)
theorem px_s_land (hI : px_look (px_code M) pc = some (.land, nx, a, b, pos, v, f)) (h : px_wp mc ms (px_W G M d mc ms Post) (.land, nx, a, b, pos, v, f) k n pc pl st ph) : px_W G M d mc ms Post k n pc pl st ph := by
  intro p e s m args below meth c C H locs ls hH hS hL
  obtain ⟨hd, rfl, hw⟩ := px_dec (L := 1) C.2.2.2.2.2.2.2.2.2.2 hI rfl (by decide)
  obtain ⟨x, y, r, rfl, h⟩ := px_l2_e h
  exact lv_land C.1 C.2.1 hd (h p e s m args below meth c C H locs ls hH hS hL)
theorem px_s_lmul (hI : px_look (px_code M) pc = some (.lmul, nx, a, b, pos, v, f)) (h : px_wp mc ms (px_W G M d mc ms Post) (.lmul, nx, a, b, pos, v, f) k n pc pl st ph) : px_W G M d mc ms Post k n pc pl st ph := by
  intro p e s m args below meth c C H locs ls hH hS hL
  obtain ⟨hd, rfl, hw⟩ := px_dec (L := 1) C.2.2.2.2.2.2.2.2.2.2 hI rfl (by decide)
  obtain ⟨x, y, r, rfl, h⟩ := px_l2_e h
  exact lv_lmul C.1 C.2.1 hd (h p e s m args below meth c C H locs ls hH hS hL)
theorem px_s_lcmp (hI : px_look (px_code M) pc = some (.lcmp, nx, a, b, pos, v, f)) (h : px_wp mc ms (px_W G M d mc ms Post) (.lcmp, nx, a, b, pos, v, f) k n pc pl st ph) : px_W G M d mc ms Post k n pc pl st ph := by
  intro p e s m args below meth c C H locs ls hH hS hL
  obtain ⟨hd, rfl, hw⟩ := px_dec (L := 1) C.2.2.2.2.2.2.2.2.2.2 hI rfl (by decide)
  obtain ⟨x, y, r, rfl, h⟩ := px_l2_e h
  exact W.lcmp C.1 C.2.1 hd (h p e s m args below meth c C H locs ls hH hS hL)
theorem px_s_lshl (hI : px_look (px_code M) pc = some (.lshl, nx, a, b, pos, v, f)) (h : px_wp mc ms (px_W G M d mc ms Post) (.lshl, nx, a, b, pos, v, f) k n pc pl st ph) : px_W G M d mc ms Post k n pc pl st ph := by
  intro p e s m args below meth c C H locs ls hH hS hL
  obtain ⟨hd, rfl, hw⟩ := px_dec (L := 1) C.2.2.2.2.2.2.2.2.2.2 hI rfl (by decide)
  obtain ⟨x, y, r, rfl, h⟩ := px_il_e h
  exact lv_lshl C.1 C.2.1 hd rfl (h p e s m args below meth c C H locs ls hH hS hL)
theorem px_s_lshr (hI : px_look (px_code M) pc = some (.lshr, nx, a, b, pos, v, f)) (h : px_wp mc ms (px_W G M d mc ms Post) (.lshr, nx, a, b, pos, v, f) k n pc pl st ph) : px_W G M d mc ms Post k n pc pl st ph := by
  intro p e s m args below meth c C H locs ls hH hS hL
  obtain ⟨hd, rfl, hw⟩ := px_dec (L := 1) C.2.2.2.2.2.2.2.2.2.2 hI rfl (by decide)
  obtain ⟨x, y, r, rfl, h⟩ := px_il_e h
  exact lv_lshr C.1 C.2.1 hd rfl (h p e s m args below meth c C H locs ls hH hS hL)
theorem px_s_lushr (hI : px_look (px_code M) pc = some (.lushr, nx, a, b, pos, v, f)) (h : px_wp mc ms (px_W G M d mc ms Post) (.lushr, nx, a, b, pos, v, f) k n pc pl st ph) : px_W G M d mc ms Post k n pc pl st ph := by
  intro p e s m args below meth c C H locs ls hH hS hL
  obtain ⟨hd, rfl, hw⟩ := px_dec (L := 1) C.2.2.2.2.2.2.2.2.2.2 hI rfl (by decide)
  obtain ⟨x, y, r, rfl, h⟩ := px_il_e h
  exact lv_lushr C.1 C.2.1 hd rfl (h p e s m args below meth c C H locs ls hH hS hL)
theorem px_s_i2l (hI : px_look (px_code M) pc = some (.i2l, nx, a, b, pos, v, f)) (h : px_wp mc ms (px_W G M d mc ms Post) (.i2l, nx, a, b, pos, v, f) k n pc pl st ph) : px_W G M d mc ms Post k n pc pl st ph := by
  intro p e s m args below meth c C H locs ls hH hS hL
  obtain ⟨hd, rfl, hw⟩ := px_dec (L := 1) C.2.2.2.2.2.2.2.2.2.2 hI rfl (by decide)
  obtain ⟨x, r, rfl, h⟩ := px_i1_e h
  exact lv_i2l C.1 C.2.1 hd rfl (h p e s m args below meth c C H locs ls hH hS hL)
theorem px_s_l2i (hI : px_look (px_code M) pc = some (.l2i, nx, a, b, pos, v, f)) (h : px_wp mc ms (px_W G M d mc ms Post) (.l2i, nx, a, b, pos, v, f) k n pc pl st ph) : px_W G M d mc ms Post k n pc pl st ph := by
  intro p e s m args below meth c C H locs ls hH hS hL
  obtain ⟨hd, rfl, hw⟩ := px_dec (L := 1) C.2.2.2.2.2.2.2.2.2.2 hI rfl (by decide)
  obtain ⟨x, r, rfl, h⟩ := px_l1_e h
  exact lv_l2i C.1 C.2.1 hd rfl (h p e s m args below meth c C H locs ls hH hS hL)
theorem px_s_i2b (hI : px_look (px_code M) pc = some (.i2b, nx, a, b, pos, v, f)) (h : px_wp mc ms (px_W G M d mc ms Post) (.i2b, nx, a, b, pos, v, f) k n pc pl st ph) : px_W G M d mc ms Post k n pc pl st ph := by
  intro p e s m args below meth c C H locs ls hH hS hL
  obtain ⟨hd, rfl, hw⟩ := px_dec (L := 1) C.2.2.2.2.2.2.2.2.2.2 hI rfl (by decide)
  obtain ⟨x, r, rfl, h⟩ := px_i1_e h
  exact lv_i2b C.1 C.2.1 hd rfl (h p e s m args below meth c C H locs ls hH hS hL)
theorem px_s_dup (hI : px_look (px_code M) pc = some (.dup, nx, a, b, pos, v, f)) (h : px_wp mc ms (px_W G M d mc ms Post) (.dup, nx, a, b, pos, v, f) k n pc pl st ph) : px_W G M d mc ms Post k n pc pl st ph := by
  intro p e s m args below meth c C H locs ls hH hS hL
  obtain ⟨hd, rfl, hw⟩ := px_dec (L := 1) C.2.2.2.2.2.2.2.2.2.2 hI rfl (by decide)
  obtain ⟨x, r, rfl, hx, h⟩ := px_v1_e h
  exact lv_dup C.1 C.2.1 hd (by rw [px_v_cat]; exact hx) (h p e s m args below meth c C H locs ls hH hS hL)
theorem px_s_pop (hI : px_look (px_code M) pc = some (.pop, nx, a, b, pos, v, f)) (h : px_wp mc ms (px_W G M d mc ms Post) (.pop, nx, a, b, pos, v, f) k n pc pl st ph) : px_W G M d mc ms Post k n pc pl st ph := by
  intro p e s m args below meth c C H locs ls hH hS hL
  obtain ⟨hd, rfl, hw⟩ := px_dec (L := 1) C.2.2.2.2.2.2.2.2.2.2 hI rfl (by decide)
  obtain ⟨x, r, rfl, hx, h⟩ := px_v1_e h
  exact lv_pop C.1 C.2.1 hd (by rw [px_v_cat]; exact hx) (h p e s m args below meth c C H locs ls hH hS hL)
theorem px_s_dup_x1 (hI : px_look (px_code M) pc = some (.dup_x1, nx, a, b, pos, v, f)) (h : px_wp mc ms (px_W G M d mc ms Post) (.dup_x1, nx, a, b, pos, v, f) k n pc pl st ph) : px_W G M d mc ms Post k n pc pl st ph := by
  intro p e s m args below meth c C H locs ls hH hS hL
  obtain ⟨hd, rfl, hw⟩ := px_dec (L := 1) C.2.2.2.2.2.2.2.2.2.2 hI rfl (by decide)
  obtain ⟨x, y, r, rfl, hx, hy, h⟩ := px_v2_e h
  exact lv_dup_x1 C.1 C.2.1 hd (by rw [px_v_cat]; exact hx) (by rw [px_v_cat]; exact hy) (h p e s m args below meth c C H locs ls hH hS hL)
theorem px_s_dup2 (hI : px_look (px_code M) pc = some (.dup2, nx, a, b, pos, v, f)) (h : px_wp mc ms (px_W G M d mc ms Post) (.dup2, nx, a, b, pos, v, f) k n pc pl st ph) : px_W G M d mc ms Post k n pc pl st ph := by
  intro p e s m args below meth c C H locs ls hH hS hL
  obtain ⟨hd, rfl, hw⟩ := px_dec (L := 1) C.2.2.2.2.2.2.2.2.2.2 hI rfl (by decide)
  obtain ⟨x, y, r, rfl, hx, hy, h⟩ := px_v2_e h
  exact lv_dup2_11 C.1 C.2.1 hd (by rw [px_v_cat]; exact hx) (by rw [px_v_cat]; exact hy) (h p e s m args below meth c C H locs ls hH hS hL)
theorem px_s_goto {o : Int} (hI : px_look (px_code M) pc = some (.goto o, nx, a, b, pos, v, f)) (h : px_wp mc ms (px_W G M d mc ms Post) (.goto o, nx, a, b, pos, v, f) k n pc pl st ph) : px_W G M d mc ms Post k n pc pl st ph := by
  intro p e s m args below meth c C H locs ls hH hS hL
  obtain ⟨hd, rfl, hw⟩ := px_dec (L := 3) C.2.2.2.2.2.2.2.2.2.2 hI rfl (by decide)
  simp only [px_chkW, decide_eq_true_eq] at hw
  exact lv_goto C.1 C.2.1 hd hw (h p e s m args below meth c C H locs ls hH hS hL)
theorem px_s_if_eq {o : Int} (hI : px_look (px_code M) pc = some (.ifCond .eq o, nx, a, b, pos, v, f)) (h : px_wp mc ms (px_W G M d mc ms Post) (.ifCond .eq o, nx, a, b, pos, v, f) k n pc pl st ph) : px_W G M d mc ms Post k n pc pl st ph := by
  intro p e s m args below meth c C H locs ls hH hS hL
  obtain ⟨hd, rfl, hw⟩ := px_dec (L := 3) C.2.2.2.2.2.2.2.2.2.2 hI rfl (by decide)
  simp only [px_chkW, decide_eq_true_eq] at hw
  obtain ⟨x, r, rfl, h⟩ := px_i1_e h
  exact lv_if_eq C.1 C.2.1 hd hw (fun z => h.1 (by rw [nI_0]; exact z) p e s m args below meth c C H locs ls hH hS hL) (fun z => h.2 (by rw [nI_0]; exact z) p e s m args below meth c C H locs ls hH hS hL)
theorem px_s_if_ne {o : Int} (hI : px_look (px_code M) pc = some (.ifCond .ne o, nx, a, b, pos, v, f)) (h : px_wp mc ms (px_W G M d mc ms Post) (.ifCond .ne o, nx, a, b, pos, v, f) k n pc pl st ph) : px_W G M d mc ms Post k n pc pl st ph := by
  intro p e s m args below meth c C H locs ls hH hS hL
  obtain ⟨hd, rfl, hw⟩ := px_dec (L := 3) C.2.2.2.2.2.2.2.2.2.2 hI rfl (by decide)
  simp only [px_chkW, decide_eq_true_eq] at hw
  obtain ⟨x, r, rfl, h⟩ := px_i1_e h
  exact lv_if_ne C.1 C.2.1 hd hw (fun z => h.1 (by rw [nI_0]; exact z) p e s m args below meth c C H locs ls hH hS hL) (fun z => h.2 (by rw [nI_0]; exact z) p e s m args below meth c C H locs ls hH hS hL)
theorem px_s_if_lt {o : Int} (hI : px_look (px_code M) pc = some (.ifCond .lt o, nx, a, b, pos, v, f)) (h : px_wp mc ms (px_W G M d mc ms Post) (.ifCond .lt o, nx, a, b, pos, v, f) k n pc pl st ph) : px_W G M d mc ms Post k n pc pl st ph := by
  intro p e s m args below meth c C H locs ls hH hS hL
  obtain ⟨hd, rfl, hw⟩ := px_dec (L := 3) C.2.2.2.2.2.2.2.2.2.2 hI rfl (by decide)
  simp only [px_chkW, decide_eq_true_eq] at hw
  obtain ⟨x, r, rfl, h⟩ := px_i1_e h
  exact lv_if_lt C.1 C.2.1 hd hw (fun z => h.1 (by rw [nI_0]; exact z) p e s m args below meth c C H locs ls hH hS hL) (fun z => h.2 (by rw [nI_0]; exact z) p e s m args below meth c C H locs ls hH hS hL)
theorem px_s_if_gt {o : Int} (hI : px_look (px_code M) pc = some (.ifCond .gt o, nx, a, b, pos, v, f)) (h : px_wp mc ms (px_W G M d mc ms Post) (.ifCond .gt o, nx, a, b, pos, v, f) k n pc pl st ph) : px_W G M d mc ms Post k n pc pl st ph := by
  intro p e s m args below meth c C H locs ls hH hS hL
  obtain ⟨hd, rfl, hw⟩ := px_dec (L := 3) C.2.2.2.2.2.2.2.2.2.2 hI rfl (by decide)
  simp only [px_chkW, decide_eq_true_eq] at hw
  obtain ⟨x, r, rfl, h⟩ := px_i1_e h
  exact lv_if_gt C.1 C.2.1 hd hw (fun z => h.1 (by rw [nI_0]; exact z) p e s m args below meth c C H locs ls hH hS hL) (fun z => h.2 (by rw [nI_0]; exact z) p e s m args below meth c C H locs ls hH hS hL)
theorem px_s_if_ge {o : Int} (hI : px_look (px_code M) pc = some (.ifCond .ge o, nx, a, b, pos, v, f)) (h : px_wp mc ms (px_W G M d mc ms Post) (.ifCond .ge o, nx, a, b, pos, v, f) k n pc pl st ph) : px_W G M d mc ms Post k n pc pl st ph := by
  intro p e s m args below meth c C H locs ls hH hS hL
  obtain ⟨hd, rfl, hw⟩ := px_dec (L := 3) C.2.2.2.2.2.2.2.2.2.2 hI rfl (by decide)
  simp only [px_chkW, decide_eq_true_eq] at hw
  obtain ⟨x, r, rfl, h⟩ := px_i1_e h
  exact lv_if_ge C.1 C.2.1 hd hw (fun z => h.1 (by rw [nI_0]; exact Int32.not_lt.mpr z) p e s m args below meth c C H locs ls hH hS hL) (fun z => h.2 (by rw [nI_0]; exact Int32.not_le.mp z) p e s m args below meth c C H locs ls hH hS hL)
theorem px_s_if_le {o : Int} (hI : px_look (px_code M) pc = some (.ifCond .le o, nx, a, b, pos, v, f)) (h : px_wp mc ms (px_W G M d mc ms Post) (.ifCond .le o, nx, a, b, pos, v, f) k n pc pl st ph) : px_W G M d mc ms Post k n pc pl st ph := by
  intro p e s m args below meth c C H locs ls hH hS hL
  obtain ⟨hd, rfl, hw⟩ := px_dec (L := 3) C.2.2.2.2.2.2.2.2.2.2 hI rfl (by decide)
  simp only [px_chkW, decide_eq_true_eq] at hw
  obtain ⟨x, r, rfl, h⟩ := px_i1_e h
  exact lv_if_le C.1 C.2.1 hd hw (fun z => h.1 (by rw [nI_0]; exact Int32.not_lt.mpr z) p e s m args below meth c C H locs ls hH hS hL) (fun z => h.2 (by rw [nI_0]; exact Int32.not_le.mp z) p e s m args below meth c C H locs ls hH hS hL)
theorem px_s_icmp_eq {o : Int} (hI : px_look (px_code M) pc = some (.if_icmp .eq o, nx, a, b, pos, v, f)) (h : px_wp mc ms (px_W G M d mc ms Post) (.if_icmp .eq o, nx, a, b, pos, v, f) k n pc pl st ph) : px_W G M d mc ms Post k n pc pl st ph := by
  intro p e s m args below meth c C H locs ls hH hS hL
  obtain ⟨hd, rfl, hw⟩ := px_dec (L := 3) C.2.2.2.2.2.2.2.2.2.2 hI rfl (by decide)
  simp only [px_chkW, decide_eq_true_eq] at hw
  obtain ⟨x, y, r, rfl, h⟩ := px_i2_e h
  exact lv_icmp_eq C.1 C.2.1 hd hw (fun z => h.1 z p e s m args below meth c C H locs ls hH hS hL) (fun z => h.2 z p e s m args below meth c C H locs ls hH hS hL)
theorem px_s_icmp_ne {o : Int} (hI : px_look (px_code M) pc = some (.if_icmp .ne o, nx, a, b, pos, v, f)) (h : px_wp mc ms (px_W G M d mc ms Post) (.if_icmp .ne o, nx, a, b, pos, v, f) k n pc pl st ph) : px_W G M d mc ms Post k n pc pl st ph := by
  intro p e s m args below meth c C H locs ls hH hS hL
  obtain ⟨hd, rfl, hw⟩ := px_dec (L := 3) C.2.2.2.2.2.2.2.2.2.2 hI rfl (by decide)
  simp only [px_chkW, decide_eq_true_eq] at hw
  obtain ⟨x, y, r, rfl, h⟩ := px_i2_e h
  exact lv_icmp_ne C.1 C.2.1 hd hw (fun z => h.1 z p e s m args below meth c C H locs ls hH hS hL) (fun z => h.2 z p e s m args below meth c C H locs ls hH hS hL)
theorem px_s_icmp_lt {o : Int} (hI : px_look (px_code M) pc = some (.if_icmp .lt o, nx, a, b, pos, v, f)) (h : px_wp mc ms (px_W G M d mc ms Post) (.if_icmp .lt o, nx, a, b, pos, v, f) k n pc pl st ph) : px_W G M d mc ms Post k n pc pl st ph := by
  intro p e s m args below meth c C H locs ls hH hS hL
  obtain ⟨hd, rfl, hw⟩ := px_dec (L := 3) C.2.2.2.2.2.2.2.2.2.2 hI rfl (by decide)
  simp only [px_chkW, decide_eq_true_eq] at hw
  obtain ⟨x, y, r, rfl, h⟩ := px_i2_e h
  exact lv_icmp_lt C.1 C.2.1 hd hw (fun z => h.1 z p e s m args below meth c C H locs ls hH hS hL) (fun z => h.2 z p e s m args below meth c C H locs ls hH hS hL)
theorem px_s_icmp_gt {o : Int} (hI : px_look (px_code M) pc = some (.if_icmp .gt o, nx, a, b, pos, v, f)) (h : px_wp mc ms (px_W G M d mc ms Post) (.if_icmp .gt o, nx, a, b, pos, v, f) k n pc pl st ph) : px_W G M d mc ms Post k n pc pl st ph := by
  intro p e s m args below meth c C H locs ls hH hS hL
  obtain ⟨hd, rfl, hw⟩ := px_dec (L := 3) C.2.2.2.2.2.2.2.2.2.2 hI rfl (by decide)
  simp only [px_chkW, decide_eq_true_eq] at hw
  obtain ⟨x, y, r, rfl, h⟩ := px_i2_e h
  exact lv_icmp_gt C.1 C.2.1 hd hw (fun z => h.1 z p e s m args below meth c C H locs ls hH hS hL) (fun z => h.2 z p e s m args below meth c C H locs ls hH hS hL)
theorem px_s_icmp_ge {o : Int} (hI : px_look (px_code M) pc = some (.if_icmp .ge o, nx, a, b, pos, v, f)) (h : px_wp mc ms (px_W G M d mc ms Post) (.if_icmp .ge o, nx, a, b, pos, v, f) k n pc pl st ph) : px_W G M d mc ms Post k n pc pl st ph := by
  intro p e s m args below meth c C H locs ls hH hS hL
  obtain ⟨hd, rfl, hw⟩ := px_dec (L := 3) C.2.2.2.2.2.2.2.2.2.2 hI rfl (by decide)
  simp only [px_chkW, decide_eq_true_eq] at hw
  obtain ⟨x, y, r, rfl, h⟩ := px_i2_e h
  exact lv_icmp_ge C.1 C.2.1 hd hw (fun z => h.1 (Int32.not_lt.mpr z) p e s m args below meth c C H locs ls hH hS hL) (fun z => h.2 (Int32.not_le.mp z) p e s m args below meth c C H locs ls hH hS hL)
theorem px_s_icmp_le {o : Int} (hI : px_look (px_code M) pc = some (.if_icmp .le o, nx, a, b, pos, v, f)) (h : px_wp mc ms (px_W G M d mc ms Post) (.if_icmp .le o, nx, a, b, pos, v, f) k n pc pl st ph) : px_W G M d mc ms Post k n pc pl st ph := by
  intro p e s m args below meth c C H locs ls hH hS hL
  obtain ⟨hd, rfl, hw⟩ := px_dec (L := 3) C.2.2.2.2.2.2.2.2.2.2 hI rfl (by decide)
  simp only [px_chkW, decide_eq_true_eq] at hw
  obtain ⟨x, y, r, rfl, h⟩ := px_i2_e h
  exact lv_icmp_le C.1 C.2.1 hd hw (fun z => h.1 (Int32.not_lt.mpr z) p e s m args below meth c C H locs ls hH hS hL) (fun z => h.2 (Int32.not_le.mp z) p e s m args below meth c C H locs ls hH hS hL)
theorem px_s_ifnull {o : Int} (hI : px_look (px_code M) pc = some (.ifnull o, nx, a, b, pos, v, f)) (h : px_wp mc ms (px_W G M d mc ms Post) (.ifnull o, nx, a, b, pos, v, f) k n pc pl st ph) : px_W G M d mc ms Post k n pc pl st ph := by
  intro p e s m args below meth c C H locs ls hH hS hL
  obtain ⟨hd, rfl, hw⟩ := px_dec (L := 3) C.2.2.2.2.2.2.2.2.2.2 hI rfl (by decide)
  simp only [px_chkW, decide_eq_true_eq] at hw
  obtain ⟨x, r, rfl, ⟨o, rfl⟩ | rfl, h⟩ := px_a1_e (show px_a1 st (fun x r => match x with
    | .null => px_W G M d mc ms Post k n a pl r ph
    | _ => px_W G M d mc ms Post k n (pc + 3) pl r ph) from h)
  · exact lv_ifnull C.1 C.2.1 hd (h p e s m args below meth c C H locs ls hH hS hL)
  · exact lv_ifnullN C.1 C.2.1 hd hw (h p e s m args below meth c C H locs ls hH hS hL)
theorem px_s_ifnonnull {o : Int} (hI : px_look (px_code M) pc = some (.ifnonnull o, nx, a, b, pos, v, f)) (h : px_wp mc ms (px_W G M d mc ms Post) (.ifnonnull o, nx, a, b, pos, v, f) k n pc pl st ph) : px_W G M d mc ms Post k n pc pl st ph := by
  intro p e s m args below meth c C H locs ls hH hS hL
  obtain ⟨hd, rfl, hw⟩ := px_dec (L := 3) C.2.2.2.2.2.2.2.2.2.2 hI rfl (by decide)
  simp only [px_chkW, decide_eq_true_eq] at hw
  obtain ⟨x, r, rfl, ⟨o, rfl⟩ | rfl, h⟩ := px_a1_e (show px_a1 st (fun x r => match x with
    | .null => px_W G M d mc ms Post k n (pc + 3) pl r ph
    | _ => px_W G M d mc ms Post k n a pl r ph) from h)
  · exact lv_ifnonnull C.1 C.2.1 hd hw (h p e s m args below meth c C H locs ls hH hS hL)
  · exact lv_ifnonnullN C.1 C.2.1 hd (h p e s m args below meth c C H locs ls hH hS hL)
theorem px_s_table {dflt lo hi : Int} {offs : Array Int} (hI : px_look (px_code M) pc = some (.tableswitch dflt lo hi offs, nx, a, b, pos, v, f)) (h : px_wp mc ms (px_W G M d mc ms Post) (.tableswitch dflt lo hi offs, nx, a, b, pos, v, f) k n pc pl st ph) : px_W G M d mc ms Post k n pc pl st ph := by
  intro p e s m args below meth c C H locs ls hH hS hL
  obtain ⟨L, hd, -, -, hw⟩ := px_dec0 C.2.2.2.2.2.2.2.2.2.2 hI
  simp only [px_chkW, Bool.and_eq_true, decide_eq_true_eq] at hw
  obtain ⟨x, r, rfl, h⟩ := px_i1_e h
  obtain ⟨⟨h1, h2⟩, h3⟩ := hw
  by_cases hx : x.toInt < lo ∨ hi < x.toInt
  · refine lv_tableOut C.1 C.2.1 hd hx (tgt := px_tsw pc dflt lo hi offs x) (by unfold px_tsw; rw [if_pos hx]; omega) (h p e s m args below meth c C H locs ls hH hS hL)
  · have hlt : (x.toInt - lo).toNat < offs.size := by omega
    have e1 : offs[(x.toInt - lo).toNat]? = some offs[(x.toInt - lo).toNat] := Array.getElem?_eq_getElem hlt
    have h4 : 0 ≤ (pc : Int) + offs[(x.toInt - lo).toNat] := by
      have := List.all_eq_true.mp h2 offs[(x.toInt - lo).toNat] (by simp)
      simpa using this
    refine lv_tableIn C.1 C.2.1 hd (fun q => hx (Or.inl q)) (fun q => hx (Or.inr q)) e1 (tgt := px_tsw pc dflt lo hi offs x) (by unfold px_tsw; rw [if_neg hx, e1]; simp only; omega) (h p e s m args below meth c C H locs ls hH hS hL)
theorem px_lsw_in : ∀ (l : List (Int × Int)) (dflt z : Int), Op.lookupswitch.offset l dflt z = dflt ∨ ∃ q ∈ l, Op.lookupswitch.offset l dflt z = q.2
  | [], dflt, z => Or.inl rfl
  | (x, o) :: r, dflt, z => by
    unfold Op.lookupswitch.offset
    by_cases h : x = z
    · exact Or.inr ⟨(x, o), List.mem_cons_self, by simp [h]⟩
    · rcases px_lsw_in r dflt z with q | ⟨q, hq, e⟩
      · exact Or.inl (by simp [h, q])
      · exact Or.inr ⟨q, List.mem_cons_of_mem _ hq, by simp [h, e]⟩
theorem px_s_lookup {dflt : Int} {ps : Array (Int × Int)} (hI : px_look (px_code M) pc = some (.lookupswitch dflt ps, nx, a, b, pos, v, f)) (h : px_wp mc ms (px_W G M d mc ms Post) (.lookupswitch dflt ps, nx, a, b, pos, v, f) k n pc pl st ph) : px_W G M d mc ms Post k n pc pl st ph := by
  intro p e s m args below meth c C H locs ls hH hS hL
  obtain ⟨L, hd, -, -, hw⟩ := px_dec0 C.2.2.2.2.2.2.2.2.2.2 hI
  simp only [px_chkW, Bool.and_eq_true, decide_eq_true_eq] at hw
  obtain ⟨x, r, rfl, h⟩ := px_i1_e h
  obtain ⟨⟨h1, h2⟩, h3⟩ := hw
  have h4 : 0 ≤ (pc : Int) + Op.lookupswitch.offset ps.toList dflt x.toInt := by
    rcases px_lsw_in ps.toList dflt x.toInt with q | ⟨q, hq, e1⟩
    · rw [q]; exact h2
    · rw [e1]; simpa using List.all_eq_true.mp h3 q hq
  exact lv_lookup C.1 C.2.1 hd h1 rfl (tgt := px_lsw pc dflt ps x) (by unfold px_lsw; omega) (h p e s m args below meth c C H locs ls hH hS hL)
end PXS
