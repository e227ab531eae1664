/-! px: the machine's heap, locals and stack as pure values; a method's run over them -/
abbrev px_G : Type := Launch × va_G × (Nat → ClassId) × Nat
abbrev px_E : Type := (Nat × vp_A) ⊕ (Nat × List Value)
def px_name (M : px_M) : MethodName := M.1
def px_bytes (M : px_M) : ByteArray := M.2.1
def px_maxL (M : px_M) : Nat := M.2.2.1
def px_ret (M : px_M) : Option FieldType := M.2.2.2.1
def px_kind (M : px_M) : Nat := M.2.2.2.2.1
def px_np (M : px_M) : Nat := M.2.2.2.2.2.1
def px_code (M : px_M) : px_L := M.2.2.2.2.2.2.2
def px_look : px_L → Nat → Option px_I
  | [], _ => none
  | q :: l, pc => match Nat.beq q.1 pc with
    | true => some q.2
    | false => px_look l pc
def px_tbl : List Jvm.Cond := lw_tbl.filter goodWord
def px_ws (M : px_M) : List Jvm.Cond := Jvm.Cond.code (px_name M) (px_bytes M) (px_maxL M) (px_ret M) :: px_tbl
def px_R (d mc ms : Nat) : Room := { frames := d, cells := mc, slots := ms, locals := 48 * d }
def px_v (B : Nat) (v : Value) : Value := match v with
  | .ref k => .ref (B + k)
  | .int x => .int x
  | .long x => .long x
  | .float x => .float x
  | .double x => .double x
  | .null => .null
  | .retAddr x => .retAddr x
def px_a (B : Nat) (a : vp_A) : vp_A := (a.1, match a.2 with
  | .inl f => .inl f
  | .inr (.inl f) => .inr (.inl f)
  | .inr (.inr (.inl f)) => .inr (.inr (.inl f))
  | .inr (.inr (.inr (.inl f))) => .inr (.inr (.inr (.inl f)))
  | .inr (.inr (.inr (.inr f))) => .inr (.inr (.inr (.inr (fun j => (f j).map (fun q => B + q))))))
def px_e (B : Nat) (cA : Nat → ClassId) (e : px_E) : va_E := match e with
  | .inl q => .inl (cA q.1, px_a B q.2)
  | .inr q => .inr (q.1, q.2.map (px_v B))
def px_tyL (cA : Nat → ClassId) : List (ClassId × FieldType) := px_tys.mapIdx (fun t ty => (cA t, ty))
def px_H (G : px_G) (ph : List px_E) (H : Heap) : Prop := H.size = G.2.2.2 + ph.length ∧ (∀ (k : Nat) (e : px_E), ph[k]? = some e → va_at G.2.1 vwCl (G.2.2.2 + k, px_e G.2.2.2 G.2.2.1 e) H) ∧ ∀ (k t n : Nat) (c : _), ph[k]? = some (.inl (t, n, c)) → n < 2 ^ 31
def px_ls (B nL : Nat) (ls : Array Slot) (pl : List (Option Value)) : Prop := ls.size = nL ∧ lv_wf ls ∧ ∀ (i : Nat) (v : Value), pl[i]? = some (some v) → ls[i]? = some (.val (px_v B v))
/-- the classes of arrays of references are known -/
def px_nw (w : Jvm.Cond) : Bool := match w with
  | .methodLinkNest _ _ _ _ => true
  | .castable _ _ => true
  | _ => false
def px_AO (U : State) : Prop := (∀ (t : Nat) (C : String), px_tys[t]? = some (.object C) → va_AO C U) ∧ ∀ w ∈ lw_tbl, px_nw w = true → va_Nw w U
def px_C (G : px_G) (M : px_M) (p : Program) (s : State) (m : MethodId) (args : Array Value) (meth : Method) (c : Code) : Prop :=
  p.tables.exec = Jvm.exec ∧ c.code = px_bytes M ∧ c.maxLocals = px_maxL M ∧ s.vm.findClass (px_name M).cls = some m.cls ∧ (∀ w ∈ px_tbl, w.before args s = true) ∧ va_K G.2.1 vwCl (px_tyL G.2.2.1) s ∧ meth.locks = false ∧ meth.sig.returnType = px_ret M ∧ meth.name = (px_name M).name ∧ (G.2.2.2 ≤ s.heap.size ∧ px_AO s) ∧ px_chk M
def px_Q (G : px_G) (Post : Option Value → List px_E → Prop) : Array Value → State → Outcome → State → Prop := fun _ st o t =>
  (∃ (r : Option Value) (ph : List px_E), o = .returned (r.map (px_v G.2.2.2)) ∧ Post r ph ∧ px_H G ph t.heap) ∧ va_F (fun q => G.2.2.2 ≤ q) st t
/-- the run of a method from here on, over pure values: it comes to its end with Post -/
def px_W (G : px_G) (M : px_M) (d mc ms : Nat) (Post : Option Value → List px_E → Prop) (k n pc : Nat) (pl : List (Option Value)) (st : List Value) (ph : List px_E) : Prop :=
  ∀ (p : Program) (e : Env) (s : State) (m : MethodId) (args : Array Value) (below : List Frame) (meth : Method) (c : Code), px_C G M p s m args meth c →
  ∀ (H : Heap) (locs : List Loc) (ls : Array Slot), px_H G ph H → va_S (fun q => G.2.2.2 ≤ q) s.heap H locs → px_ls G.2.2.2 (px_maxL M) ls pl →
  W p G.1 e (px_R d mc ms) s m args below meth c H locs k n (MQ below (px_Q G Post) args s mc ms (fun q => G.2.2.2 ≤ q)) (F0 m pc ls (st.map (px_v G.2.2.2)))
/-- a method's contract over pure values -/
def px_Met (G : px_G) (M : px_M) (d mc ms : Nat) (as : List Value) (ph : List px_E) (Post : Option Value → List px_E → Prop) : Prop :=
  Met G.1 (px_name M) (px_ws M) (px_R d mc ms) (va_Pc (as.map (px_v G.2.2.2)) (fun U => px_H G ph U.heap ∧ va_K G.2.1 vwCl (px_tyL G.2.2.1) U ∧ px_AO U)) (px_Q G Post) mc ms (fun q => G.2.2.2 ≤ q)
/-! rows on the pure values -/
theorem px_v_cat (B : Nat) (v : Value) : (px_v B v).category = v.category := by cases v <;> rfl
theorem px_tyL_at {cA : Nat → ClassId} {t : Nat} {ty : FieldType} (h : px_tys[t]? = some ty) : (px_tyL cA)[t]? = some (cA t, ty) := by
  simp [px_tyL, List.getElem?_mapIdx, h]
theorem px_tbl_of {pos : Nat} {w : Jvm.Cond} (h : lw_tbl[pos]? = some w) (hg : goodWord w = true) : w ∈ px_tbl := List.mem_filter.mpr ⟨List.mem_of_getElem? h, hg⟩
theorem px_H.set {G : px_G} {ph : List px_E} {H H1 : Heap} {k : Nat} {e0 e1 : px_E} (h : px_H G ph H) (hk : ph[k]? = some e0) (h1 : va_at G.2.1 vwCl (G.2.2.2 + k, px_e G.2.2.2 G.2.2.1 e1) H1) (hz : H1.size = H.size) (ho : ∀ q : Nat, q ≠ G.2.2.2 + k → H1[q]? = H[q]?)
    (hn : ∀ (t n : Nat) (c : _), e1 = .inl (t, n, c) → n < 2 ^ 31) : px_H G (ph.set k e1) H1 := by
  have hl := (List.getElem?_eq_some_iff.mp hk).1
  refine ⟨by rw [hz, List.length_set]; exact h.1, fun j e hj => ?_, fun j t n c hj => ?_⟩
  · by_cases hjk : j = k
    · subst hjk
      rw [List.getElem?_set_self hl] at hj
      cases hj
      exact h1
    · rw [List.getElem?_set_ne (Ne.symm hjk)] at hj
      exact (h.2.1 j e hj).kept (ho _ (fun q => hjk (by simpa using q)))
  · by_cases hjk : j = k
    · subst hjk
      rw [List.getElem?_set_self hl] at hj
      cases hj
      exact hn t n c rfl
    · rw [List.getElem?_set_ne (Ne.symm hjk)] at hj
      exact h.2.2 j t n c hj
theorem px_H.push {G : px_G} {ph : List px_E} {H H1 : Heap} {e1 : px_E} (h : px_H G ph H) (h1 : va_at G.2.1 vwCl (G.2.2.2 + ph.length, px_e G.2.2.2 G.2.2.1 e1) H1) (hz : H1.size = H.size + 1) (ho : ∀ q : Nat, q < H.size → H1[q]? = H[q]?)
    (hn : ∀ (t n : Nat) (c : _), e1 = .inl (t, n, c) → n < 2 ^ 31) : px_H G (ph ++ [e1]) H1 := by
  have key : ∀ (j : Nat) (e : px_E), (ph ++ [e1])[j]? = some e → ph[j]? = some e ∨ (j = ph.length ∧ e = e1) := by
    intro j e hj
    by_cases hl : j < ph.length
    · rw [List.getElem?_append_left hl] at hj
      exact Or.inl hj
    · rw [List.getElem?_append_right (by omega)] at hj
      have hz : j - ph.length < 1 := (List.getElem?_eq_some_iff.mp hj).1
      have hj0 : j = ph.length := by omega
      subst hj0
      rw [Nat.sub_self] at hj
      cases hj
      exact Or.inr ⟨rfl, rfl⟩
  refine ⟨by rw [hz, h.1, List.length_append]; simp; omega, fun j e hj => ?_, fun j t n c hj => ?_⟩
  · rcases key j e hj with q | ⟨rfl, rfl⟩
    · exact (h.2.1 j e q).kept (ho _ (h.2.1 j e q).lt)
    · exact h1
  · rcases key j _ hj with q | ⟨rfl, q⟩
    · exact h.2.2 j t n c q
    · exact hn t n c q.symm
theorem px_H.one {G : px_G} {ph : List px_E} {H : Heap} {k : Nat} {e : px_E} (h : px_H G ph H) (hk : ph[k]? = some e) : va_P G.2.1 vwCl [(G.2.2.2 + k, px_e G.2.2.2 G.2.2.1 e)] H := by
  intro j q hj
  have hz : j < 1 := (List.getElem?_eq_some_iff.mp hj).1
  rw [show j = 0 by omega] at hj
  cases hj
  exact h.2.1 k e hk
theorem px_H.lt {G : px_G} {ph : List px_E} {H : Heap} {k : Nat} {e : px_E} (h : px_H G ph H) (hk : ph[k]? = some e) : G.2.2.2 + k < H.size := (h.2.1 k e hk).lt
/-! what a check of a method gives -/
theorem px_chk_code {M : px_M} (h : px_chk M) : (px_code M).all (px_chkI (px_name M) (px_maxL M) (px_bytes M)) = true := h.2.2
theorem px_look_mem : ∀ (l : px_L) (pc : Nat) (I : px_I), px_look l pc = some I → (pc, I) ∈ l
  | [], pc, I, h => by cases h
  | q :: l, pc, I, h => by
    unfold px_look at h
    split at h
    · rename_i hb
      have h1 : q.1 = pc := Nat.eq_of_beq_eq_true hb
      cases h
      rw [← h1]
      exact List.mem_cons_self
    · exact List.mem_cons_of_mem _ (px_look_mem l pc I h)
theorem px_dec0 {M : px_M} {pc nx a b pos f : Nat} {i : Instr} {v : Int32} (hc : px_chk M) (hI : px_look (px_code M) pc = some (i, nx, a, b, pos, v, f)) :
    ∃ n, decode (px_bytes M) pc = .ok (i, n) ∧ pc + n = nx ∧ (px_len i = 0 ∨ px_len i = n) ∧ px_chkW (px_name M) (px_maxL M) pc i a b pos v f = true := by
  have h := List.all_eq_true.mp (px_chk_code hc) _ (px_look_mem _ _ _ hI)
  simp only [px_chkI, Bool.and_eq_true] at h
  obtain ⟨h1, h2⟩ := h
  split at h1
  · rename_i i' n hd
    simp only [Bool.and_eq_true, Bool.or_eq_true, decide_eq_true_eq] at h1
    obtain ⟨rfl, h3, h4⟩ := h1
    exact ⟨n, hd, Nat.eq_of_beq_eq_true h3, h4.imp Nat.eq_of_beq_eq_true Nat.eq_of_beq_eq_true, h2⟩
  · cases h1
theorem px_dec {M : px_M} {pc nx a b pos f L : Nat} {i : Instr} {v : Int32} (hc : px_chk M) (hI : px_look (px_code M) pc = some (i, nx, a, b, pos, v, f)) (hL : px_len i = L) (h0 : L ≠ 0) :
    decode (px_bytes M) pc = .ok (i, L) ∧ pc + L = nx ∧ px_chkW (px_name M) (px_maxL M) pc i a b pos v f = true := by
  obtain ⟨n, h1, h2, h3, h4⟩ := px_dec0 hc hI
  have : n = L := by rcases h3 with h | h <;> omega
  subst this
  exact ⟨h1, h2, h4⟩
theorem px_chkC_at {ci : Nat} {r : vw_C} (h : vwCl[ci]? = some r) : ∃ (q : Nat × Nat × List Nat) (ty : Nat → FieldType) (fs : List Value), px_tyf[ci]? = some ty ∧ px_dfl[ci]? = some fs ∧ lw_tbl[q.1]? = some (Jvm.Cond.instantiable r.1 r.2.2) ∧ lw_tbl[q.2.1]? = some (Jvm.Cond.initialized r.1) ∧ (∀ w ∈ u_ws r.1 r.2.1 r.2.2, w ∈ px_tbl) ∧ (∀ k, k < r.2.2 → parseFieldDescriptor (r.2.1 k).2.2.1 = some (ty k)) ∧ (∀ a, a < r.2.2 → ∀ b, b < r.2.2 → a ≠ b → (r.2.1 a).2.1 ≠ (r.2.1 b).2.1) ∧ (∀ k, k < r.2.2 → defaultValue (ty k) = vp_V fs k) ∧ fs.length = r.2.2 := by
  have hl : ci < 13 := (List.getElem?_eq_some_iff.mp h).1
  have h1 := px_chkC_ok ci hl
  unfold px_chkC at h1
  split at h1
  · rename_i r' q ty fs e1 e2 e3 e4
    cases h.symm.trans e1
    simp only [Bool.and_eq_true, decide_eq_true_eq] at h1
    obtain ⟨⟨⟨⟨⟨⟨a1, a2⟩, a3⟩, a4⟩, a5⟩, a6⟩, a7⟩ := h1
    refine ⟨q, ty, fs, e3, e4, a1, a2, fun w hw => ?_, a4, a5, a6, a7⟩
    have hw0 := hw
    rw [a3] at hw
    obtain ⟨i, -, hi⟩ := List.mem_filterMap.mp hw
    refine px_tbl_of hi ?_
    obtain ⟨k, -, rfl⟩ := List.mem_map.mp hw0
    unfold u_lay
    split <;> rfl
  · cases h1
