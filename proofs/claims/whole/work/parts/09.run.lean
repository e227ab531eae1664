/-- instructions that px_wp knows -/
def px_simple (i : Instr) : Bool := match i with
  | .invokevirtual _ | .invokestatic _ | .invokespecial _ | .invokeinterface _ _ | .invokedynamic _ | .ireturn | .areturn | .return_ | .lreturn => false
  | _ => true
section PXR
variable {G : px_G} {M : px_M} {d mc ms : Nat} {Post : Option Value → List px_E → Prop} {k n pc nx a b pos f : Nat} {v : Int32} {pl : List (Option Value)} {st : List Value} {ph : List px_E}
theorem px_st {I : px_I} (hI : px_look (px_code M) pc = some I) (_ : px_simple I.1 = true) (h : px_wp mc ms (px_W G M d mc ms Post) I k n pc pl st ph) : px_W G M d mc ms Post k n pc pl st ph := by
  obtain ⟨i, nx, a, b, pos, v, f⟩ := I
  cases i with
  | iconst c => exact px_s_iconst hI h
  | bipush c => exact px_s_bipush hI h
  | sipush c => exact px_s_sipush hI h
  | lconst c => exact px_s_lconst hI h
  | aconst_null => exact px_s_null hI h
  | ldc i => exact px_s_ldc hI h
  | ldc_w i => exact px_s_ldc_w hI h
  | ldc2_w i => exact px_s_ldc2_w hI h
  | iload i => exact px_s_iload hI h
  | iload_n i => exact px_s_iload_n hI h
  | lload i => exact px_s_lload hI h
  | lload_n i => exact px_s_lload_n hI h
  | aload i => exact px_s_aload hI h
  | aload_n i => exact px_s_aload_n hI h
  | istore i => exact px_s_istore hI h
  | istore_n i => exact px_s_istore_n hI h
  | lstore i => exact px_s_lstore hI h
  | lstore_n i => exact px_s_lstore_n hI h
  | astore i => exact px_s_astore hI h
  | astore_n i => exact px_s_astore_n hI h
  | iinc i c => exact px_s_iinc hI h
  | iadd => exact px_s_iadd hI h
  | isub => exact px_s_isub hI h
  | imul => exact px_s_imul hI h
  | iand => exact px_s_iand hI h
  | ior => exact px_s_ior hI h
  | ixor => exact px_s_ixor hI h
  | ishl => exact px_s_ishl hI h
  | ishr => exact px_s_ishr hI h
  | iushr => exact px_s_iushr hI h
  | idiv => exact px_s_idiv hI h
  | irem => exact px_s_irem hI h
  | lor => exact px_s_lor hI h
  | land => exact px_s_land hI h
  | lmul => exact px_s_lmul hI h
  | lcmp => exact px_s_lcmp hI h
  | lshl => exact px_s_lshl hI h
  | lshr => exact px_s_lshr hI h
  | lushr => exact px_s_lushr hI h
  | i2l => exact px_s_i2l hI h
  | l2i => exact px_s_l2i hI h
  | i2b => exact px_s_i2b hI h
  | dup => exact px_s_dup hI h
  | pop => exact px_s_pop hI h
  | dup_x1 => exact px_s_dup_x1 hI h
  | dup2 => exact px_s_dup2 hI h
  | goto o => exact px_s_goto hI h
  | ifCond c o => cases c with
    | eq => exact px_s_if_eq hI h
    | ne => exact px_s_if_ne hI h
    | lt => exact px_s_if_lt hI h
    | ge => exact px_s_if_ge hI h
    | gt => exact px_s_if_gt hI h
    | le => exact px_s_if_le hI h
  | if_icmp c o => cases c with
    | eq => exact px_s_icmp_eq hI h
    | ne => exact px_s_icmp_ne hI h
    | lt => exact px_s_icmp_lt hI h
    | ge => exact px_s_icmp_ge hI h
    | gt => exact px_s_icmp_gt hI h
    | le => exact px_s_icmp_le hI h
  | ifnull o => exact px_s_ifnull hI h
  | ifnonnull o => exact px_s_ifnonnull hI h
  | tableswitch d l h' o => exact px_s_table hI h
  | lookupswitch d p => exact px_s_lookup hI h
  | getfield i => exact px_s_getfield hI h
  | putfield i => exact px_s_putfield hI h
  | iaload => exact px_s_iaload hI h
  | baload => exact px_s_baload hI h
  | laload => exact px_s_laload hI h
  | aaload => exact px_s_aaload hI h
  | iastore => exact px_s_iastore hI h
  | bastore => exact px_s_bastore hI h
  | lastore => exact px_s_lastore hI h
  | aastore => exact px_s_aastore hI h
  | arraylength => exact px_s_arraylength hI h
  | newarray t => exact px_s_newarray hI h
  | anewarray i => exact px_s_anewarray hI h
  | new i => exact px_s_new hI h
  | _ => exact False.elim h
/-- more room was asked than used -/
theorem px_widen {k' n' : Nat} (hk : k ≤ k') (hn : n ≤ n') (h : px_W G M d mc ms Post k' n' pc pl st ph) : px_W G M d mc ms Post k n pc pl st ph := by
  intro p e s m args below meth c C H locs ls hH hS hL
  exact W.widen hk hn (h p e s m args below meth c C H locs ls hH hS hL)
theorem px_Q_of {args : Array Value} {s t : State} {H : Heap} {locs : List Loc} {r : Option Value} (hq : Post r ph) (hH : px_H G ph H) (hS : va_S (fun q => G.2.2.2 ≤ q) s.heap H locs) (ht : t.heap = H) : px_Q G Post args s (.returned (r.map (px_v G.2.2.2))) t :=
  ⟨⟨r, ph, rfl, hq, by rw [ht]; exact hH⟩, hS.F ht⟩
theorem px_ireturn (hI : px_look (px_code M) pc = some (.ireturn, nx, a, b, pos, v, f)) {x : Int32} (hr : px_ret M = some .int ∨ (px_ret M = some .boolean ∧ (x = nI 0 ∨ x = nI 1))) (hk : k ≤ mc) (hn : n ≤ ms) (hq : Post (some (.int x)) ph) : px_W G M d mc ms Post k n pc pl [.int x] ph := by
  intro p e s m args below meth c C H locs ls hH hS hL
  obtain ⟨hd, -, -⟩ := px_dec (L := 1) C.2.2.2.2.2.2.2.2.2.2 hI rfl (by decide)
  have hlocks : meth.locks = false := C.2.2.2.2.2.2.1
  refine W.widen hk hn ?_
  rcases hr with hr | ⟨hr, hx⟩
  · exact W.iret C.1 C.2.1 (C.2.2.2.2.2.2.2.1.trans hr) (fun t ht hW => px_Q_of (r := some (.int x)) hq hH hS ht) hS.2.2 hd hlocks
  · exact W.zret (ty := .boolean) C.1 C.2.1 (C.2.2.2.2.2.2.2.1.trans hr) (by rcases hx with rfl | rfl <;> decide) (fun t ht hW => px_Q_of (r := some (.int x)) hq hH hS ht) hS.2.2 hd hlocks
theorem px_return (hI : px_look (px_code M) pc = some (.return_, nx, a, b, pos, v, f)) (hr : px_ret M = none) (hk : k ≤ mc) (hn : n ≤ ms) (hq : Post none ph) : px_W G M d mc ms Post k n pc pl [] ph := by
  intro p e s m args below meth c C H locs ls hH hS hL
  obtain ⟨hd, -, -⟩ := px_dec (L := 1) C.2.2.2.2.2.2.2.2.2.2 hI rfl (by decide)
  have hlocks : meth.locks = false := C.2.2.2.2.2.2.1
  refine W.widen hk hn ?_
  exact W.vret C.1 C.2.1 (C.2.2.2.2.2.2.2.1.trans hr) (fun t ht hW => px_Q_of (r := none) hq hH hS ht) hS.2.2 hd hlocks
theorem px_areturn (hI : px_look (px_code M) pc = some (.areturn, nx, a, b, pos, v, f)) {x : Value} {rt : FieldType} (hr : px_ret M = some rt) (hrt : (∃ n, rt = .object n) ∨ ∃ t, rt = .array t) (hx : x = .null ∨ ∃ o, x = .ref o) (hk : k ≤ mc) (hn : n ≤ ms) (hq : Post (some x) ph) : px_W G M d mc ms Post k n pc pl [x] ph := by
  intro p e s m args below meth c C H locs ls hH hS hL
  obtain ⟨hd, -, -⟩ := px_dec (L := 1) C.2.2.2.2.2.2.2.2.2.2 hI rfl (by decide)
  have hlocks : meth.locks = false := C.2.2.2.2.2.2.1
  refine W.widen hk hn ?_
  exact W.aret C.1 C.2.1 (C.2.2.2.2.2.2.2.1.trans hr) hrt (by rcases hx with rfl | ⟨o, rfl⟩; exact Or.inl rfl; exact Or.inr ⟨_, rfl⟩) (fun t ht hW => px_Q_of (r := some x) hq hH hS ht) hS.2.2 hd hlocks
/-- a method's locals at its entry -/
def px_ent : List Value → List (Option Value)
  | [] => []
  | .long x :: l => some (.long x) :: none :: px_ent l
  | .double x :: l => some (.double x) :: none :: px_ent l
  | v :: l => some v :: px_ent l
def px_pad : Nat → List (Option Value) → List (Option Value)
  | 0, l => l
  | n + 1, [] => none :: px_pad n []
  | n + 1, o :: l => o :: px_pad n l
theorem px_pad_at : ∀ (n : Nat) (l : List (Option Value)) (i : Nat) (v : Value), (px_pad n l)[i]? = some (some v) → l[i]? = some (some v)
  | 0, l, i, v, h => h
  | n + 1, [], i, v, h => by
    cases i with
    | zero => simp [px_pad] at h
    | succ i =>
      have h' : (px_pad n [])[i]? = some (some v) := by simpa [px_pad] using h
      exact absurd (px_pad_at n [] i v h') (by simp)
  | n + 1, o :: l, i, v, h => by
    cases i with
    | zero => simpa [px_pad] using h
    | succ i =>
      have h' : (px_pad n l)[i]? = some (some v) := by simpa [px_pad] using h
      simpa using px_pad_at n l i v h'
theorem px_ent_at (B : Nat) : ∀ (vs : List Value) (k i : Nat) (v : Value), (px_ent vs)[i]? = some (some v) → (k + i, px_v B v) ∈ lv_args k (vs.map (px_v B))
  | [], k, i, v, h => by simp [px_ent] at h
  | w :: l, k, i, v, h => by
    have one : (px_ent (w :: l) = some w :: px_ent l) → w.category = 1 → (k + i, px_v B v) ∈ lv_args k ((w :: l).map (px_v B)) := by
      intro e1 e2
      rw [e1] at h
      cases i with
      | zero =>
        simp at h
        subst h
        exact List.mem_cons_self
      | succ i =>
        have h' : (px_ent l)[i]? = some (some v) := by simpa using h
        have h2 := px_ent_at B l (k + 1) i v h'
        refine List.mem_cons_of_mem _ ?_
        rw [if_neg (by rw [px_v_cat, e2]; decide)]
        rw [show k + (i + 1) = k + 1 + i by omega]
        exact h2
    have two : (px_ent (w :: l) = some w :: none :: px_ent l) → w.category = 2 → (k + i, px_v B v) ∈ lv_args k ((w :: l).map (px_v B)) := by
      intro e1 e2
      rw [e1] at h
      match i, h with
      | 0, h =>
        simp at h
        subst h
        exact List.mem_cons_self
      | 1, h => simp at h
      | i + 2, h =>
        have h' : (px_ent l)[i]? = some (some v) := by simpa using h
        have h2 := px_ent_at B l (k + 2) i v h'
        refine List.mem_cons_of_mem _ ?_
        rw [if_pos (by rw [px_v_cat, e2])]
        rw [show k + (i + 2) = k + 2 + i by omega]
        exact h2
    cases w with
    | long x => exact two rfl rfl
    | double x => exact two rfl rfl
    | _ => exact one rfl rfl
/-- a method's contract, from its run -/
theorem px_start {as : List Value} (hc : px_chk M) (hl : (lg_sl as).length ≤ px_maxL M) (h : px_W G M d mc ms Post 0 0 0 (px_pad (px_maxL M) (px_ent as)) [] ph) : px_Met G M d mc ms as ph Post := by
  have hplain : plainName (px_name M).cls = true := by
    have h1 := hc.2.1
    obtain ⟨y, bytes, maxL, ret, kind, np, ⟨p1, p2, p3, p4⟩, code⟩ := M
    simp only [px_hd, Bool.and_eq_true, decide_eq_true_eq] at h1
    exact h1.1.1.2
  refine Met.ofW (cc := px_bytes M) (maxL := px_maxL M) (ret := px_ret M) hplain rfl ?_
  intro p e s m args below meth c s₁ B hml hv
  obtain ⟨rfl, hH, hK, hAO⟩ := hv
  have hts := atoms_spec (ws := px_ws M) B.pre
  have hlen : (lg_sl (as.map (px_v G.2.2.2))).length = (lg_sl as).length := by
    unfold lg_sl
    rw [List.flatMap_map, List.length_flatMap, List.length_flatMap]
    congr 1
    apply List.map_congr_left
    intro w _
    rw [px_v_cat]
    by_cases hw : w.category = 2 <;> simp [hw]
  have hle := lv_entry (as.map (px_v G.2.2.2)) (n := px_maxL M) (by rw [hlen]; exact hl)
  rw [lg_entry_eq]
  refine h p e s m _ below meth c ⟨B.exec, B.bytes, hml, findClass_of_methodNamed B.named, fun w hw => hts w (List.mem_cons_of_mem _ hw), hK, B.notSynchronized, B.returns, (name_of_methodNamed B.named B.method).1, ⟨by rw [hH.1]; omega, hAO⟩, hc⟩ s.heap [] _ hH va_S.rf ⟨hle.1, hle.2.1, fun i v hi => ?_⟩
  have h2 := px_ent_at G.2.2.2 as 0 i v (px_pad_at _ _ _ _ hi)
  rw [Nat.zero_add] at h2
  exact hle.2.2 _ h2
end PXR
