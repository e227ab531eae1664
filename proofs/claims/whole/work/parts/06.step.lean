/-! locals as a list -/
def px_at : List (Option Value) → Nat → Option Value
  | [], _ => none
  | o :: _, 0 => o
  | _ :: l, i + 1 => px_at l i
def px_clr (o : Option Value) : Option Value := match o with
  | some (.long _) => none
  | some (.double _) => none
  | some (.int x) => some (.int x)
  | some (.ref x) => some (.ref x)
  | some .null => some .null
  | some (.float x) => some (.float x)
  | some (.retAddr x) => some (.retAddr x)
  | none => none
def px_set : List (Option Value) → Nat → Value → List (Option Value)
  | [], _, _ => []
  | _ :: l, 0, v => some v :: l
  | o :: l, 1, v => px_clr o :: px_set l 0 v
  | o :: l, i + 2, v => o :: px_set l (i + 1) v
def px_set2 : List (Option Value) → Nat → Value → List (Option Value)
  | [], _, _ => []
  | _ :: [], 0, v => [some v]
  | _ :: _ :: l, 0, v => some v :: none :: l
  | o :: l, 1, v => px_clr o :: px_set2 l 0 v
  | o :: l, i + 2, v => o :: px_set2 l (i + 1) v
def px_nth {α : Type} : List α → Nat → Option α
  | [], _ => none
  | x :: _, 0 => some x
  | _ :: l, i + 1 => px_nth l i
def px_upd {α : Type} : List α → Nat → α → List α
  | [], _, _ => []
  | _ :: l, 0, v => v :: l
  | x :: l, i + 1, v => x :: px_upd l i v
theorem px_nth_eq {α : Type} : ∀ (l : List α) (i : Nat), px_nth l i = l[i]?
  | [], i => by simp [px_nth]
  | x :: l, 0 => by simp [px_nth]
  | x :: l, i + 1 => by simp [px_nth, px_nth_eq l i]
theorem px_upd_eq {α : Type} : ∀ (l : List α) (i : Nat) (v : α), px_upd l i v = l.set i v
  | [], i, v => by simp [px_upd]
  | x :: l, 0, v => by simp [px_upd]
  | x :: l, i + 1, v => by simp [px_upd, px_upd_eq l i v]
theorem px_at_eq : ∀ (l : List (Option Value)) (i : Nat) (v : Value), px_at l i = some v → l[i]? = some (some v)
  | [], i, v, h => by simp [px_at] at h
  | o :: l, 0, v, h => by simp [px_at] at h; simp [h]
  | o :: l, i + 1, v, h => by
    have h' : px_at l i = some v := h
    simpa using px_at_eq l i v h'
theorem px_clr_some {o : Option Value} {w : Value} (h : px_clr o = some w) : o = some w ∧ w.category ≠ 2 := by
  cases o with
  | none => cases h
  | some x => cases x <;> simp [px_clr] at h <;> subst h <;> exact ⟨rfl, by simp [Value.category]⟩
theorem px_set_at : ∀ (pl : List (Option Value)) (i j : Nat) (v w : Value), (px_set pl i v)[j]? = some (some w) → (j = i ∧ w = v) ∨ (j ≠ i ∧ pl[j]? = some (some w) ∧ ¬ (j + 1 = i ∧ w.category = 2))
  | [], i, j, v, w, h => by simp [px_set] at h
  | o :: l, 0, j, v, w, h => by
    cases j with
    | zero => simp [px_set] at h; exact Or.inl ⟨rfl, h.symm⟩
    | succ j => simp [px_set] at h; exact Or.inr ⟨by omega, by simpa using h, by omega⟩
  | o :: l, 1, j, v, w, h => by
    cases j with
    | zero =>
      simp [px_set] at h
      obtain ⟨h1, h2⟩ := px_clr_some h
      exact Or.inr ⟨by omega, by simp [h1], fun q => h2 q.2⟩
    | succ j =>
      have h' : (px_set l 0 v)[j]? = some (some w) := by simpa [px_set] using h
      rcases px_set_at l 0 j v w h' with ⟨q1, q2⟩ | ⟨q1, q2, q3⟩
      · exact Or.inl ⟨by omega, q2⟩
      · exact Or.inr ⟨by omega, by simpa using q2, by omega⟩
  | o :: l, i + 2, j, v, w, h => by
    cases j with
    | zero =>
      simp [px_set] at h
      exact Or.inr ⟨by omega, by simp [h], by omega⟩
    | succ j =>
      have h' : (px_set l (i + 1) v)[j]? = some (some w) := by simpa [px_set] using h
      rcases px_set_at l (i + 1) j v w h' with ⟨q1, q2⟩ | ⟨q1, q2, q3⟩
      · exact Or.inl ⟨by omega, q2⟩
      · exact Or.inr ⟨by omega, by simpa using q2, fun q => q3 ⟨by omega, q.2⟩⟩
theorem px_set2_at : ∀ (pl : List (Option Value)) (i j : Nat) (v w : Value), (px_set2 pl i v)[j]? = some (some w) → (j = i ∧ w = v) ∨ (j ≠ i ∧ j ≠ i + 1 ∧ pl[j]? = some (some w) ∧ ¬ (j + 1 = i ∧ w.category = 2))
  | [], i, j, v, w, h => by simp [px_set2] at h
  | o :: [], 0, j, v, w, h => by
    cases j with
    | zero => simp [px_set2] at h; exact Or.inl ⟨rfl, h.symm⟩
    | succ j => simp [px_set2] at h
  | o :: o2 :: l, 0, j, v, w, h => by
    match j, h with
    | 0, h => simp [px_set2] at h; exact Or.inl ⟨rfl, h.symm⟩
    | 1, h => simp [px_set2] at h
    | j + 2, h => simp [px_set2] at h; exact Or.inr ⟨by omega, by omega, by simpa using h, by omega⟩
  | o :: l, 1, j, v, w, h => by
    cases j with
    | zero =>
      simp [px_set2] at h
      obtain ⟨h1, h2⟩ := px_clr_some h
      exact Or.inr ⟨by omega, by omega, by simp [h1], fun q => h2 q.2⟩
    | succ j =>
      have h' : (px_set2 l 0 v)[j]? = some (some w) := by simpa [px_set2] using h
      rcases px_set2_at l 0 j v w h' with ⟨q1, q2⟩ | ⟨q1, q4, q2, q3⟩
      · exact Or.inl ⟨by omega, q2⟩
      · exact Or.inr ⟨by omega, by omega, by simpa using q2, by omega⟩
  | o :: l, i + 2, j, v, w, h => by
    cases j with
    | zero =>
      simp [px_set2] at h
      exact Or.inr ⟨by omega, by omega, by simp [h], by omega⟩
    | succ j =>
      have h' : (px_set2 l (i + 1) v)[j]? = some (some w) := by simpa [px_set2] using h
      rcases px_set2_at l (i + 1) j v w h' with ⟨q1, q2⟩ | ⟨q1, q4, q2, q3⟩
      · exact Or.inl ⟨by omega, q2⟩
      · exact Or.inr ⟨by omega, by omega, by simpa using q2, fun q => q3 ⟨by omega, q.2⟩⟩
def px_lv (B : Nat) (pl : List (Option Value)) : List (Nat × Value) := pl.zipIdx.filterMap (fun q => q.1.map (fun v => (q.2, px_v B v)))
theorem px_lv_mem {B : Nat} {pl : List (Option Value)} {q : Nat × Value} : q ∈ px_lv B pl ↔ ∃ v, pl[q.1]? = some (some v) ∧ q.2 = px_v B v := by
  unfold px_lv
  rw [List.mem_filterMap]
  constructor
  · rintro ⟨⟨o, i⟩, h1, h2⟩
    rw [List.mem_zipIdx_iff_getElem?] at h1
    cases o with
    | none => cases h2
    | some v => cases h2; exact ⟨v, h1, rfl⟩
  · rintro ⟨v, h1, h2⟩
    refine ⟨(some v, q.1), List.mem_zipIdx_iff_getElem?.mpr h1, ?_⟩
    obtain ⟨i, w⟩ := q
    simp only at h2
    subst h2
    rfl
theorem px_ls.has {B nL : Nat} {ls : Array Slot} {pl : List (Option Value)} (h : px_ls B nL ls pl) : lv_has ls nL (px_lv B pl) :=
  ⟨h.1, h.2.1, fun q hq => by obtain ⟨v, h1, h2⟩ := px_lv_mem.mp hq; rw [h2]; exact h.2.2 _ v h1⟩
theorem px_ls.at {B nL i : Nat} {ls : Array Slot} {pl : List (Option Value)} {v : Value} (h : px_ls B nL ls pl) (hv : px_at pl i = some v) : ls[i]? = some (.val (px_v B v)) := h.2.2 i v (px_at_eq pl i v hv)
theorem px_ls.store {B nL i : Nat} {ls : Array Slot} {pl : List (Option Value)} {v w : Value} (hw : w = px_v B v) (h : lv_has ls nL ((i, w) :: (px_lv B pl).filter (fun q => !(q.1 == i) && !(q.1 + 1 == i && q.2.category == 2)))) : px_ls B nL ls (px_set pl i v) := by
  refine ⟨h.1, h.2.1, fun j u hj => ?_⟩
  rcases px_set_at pl i j v u hj with ⟨rfl, rfl⟩ | ⟨q1, q2, q3⟩
  · rw [← hw]; exact h.2.2 (_, w) List.mem_cons_self
  · refine h.2.2 (j, px_v B u) (List.mem_cons_of_mem _ (List.mem_filter.mpr ⟨px_lv_mem.mpr ⟨u, q2, rfl⟩, ?_⟩))
    simp only [px_v_cat]
    by_cases h1 : j + 1 = i
    · have h2 : ¬ u.category = 2 := fun z => q3 ⟨h1, z⟩
      simp [q1, h2]
    · simp [q1, h1]
theorem px_ls.store2 {B nL i : Nat} {ls : Array Slot} {pl : List (Option Value)} {v w : Value} (hw : w = px_v B v) (h : lv_has ls nL ((i, w) :: (px_lv B pl).filter (fun q => !(q.1 == i) && (!(q.1 == i + 1) && !(q.1 + 1 == i && q.2.category == 2))))) : px_ls B nL ls (px_set2 pl i v) := by
  refine ⟨h.1, h.2.1, fun j u hj => ?_⟩
  rcases px_set2_at pl i j v u hj with ⟨rfl, rfl⟩ | ⟨q1, q4, q2, q3⟩
  · rw [← hw]; exact h.2.2 (_, w) List.mem_cons_self
  · refine h.2.2 (j, px_v B u) (List.mem_cons_of_mem _ (List.mem_filter.mpr ⟨px_lv_mem.mpr ⟨u, q2, rfl⟩, ?_⟩))
    simp only [px_v_cat]
    by_cases h1 : j + 1 = i
    · have h2 : ¬ u.category = 2 := fun z => q3 ⟨h1, z⟩
      simp [q1, q4, h2]
    · simp [q1, q4, h1]
/-! one instruction -/
def px_ldi (pl : List (Option Value)) (i : Nat) (P : Int32 → Prop) : Prop := match px_at pl i with
  | some (.int x) => P x
  | _ => False
def px_ldl (pl : List (Option Value)) (i : Nat) (P : Int64 → Prop) : Prop := match px_at pl i with
  | some (.long x) => P x
  | _ => False
def px_lda (pl : List (Option Value)) (i : Nat) (P : Value → Prop) : Prop := match px_at pl i with
  | some (.ref x) => P (.ref x)
  | some .null => P .null
  | _ => False
def px_i1 (st : List Value) (P : Int32 → List Value → Prop) : Prop := match st with
  | .int x :: r => P x r
  | _ => False
def px_i2 (st : List Value) (P : Int32 → Int32 → List Value → Prop) : Prop := match st with
  | .int y :: .int x :: r => P x y r
  | _ => False
def px_l1 (st : List Value) (P : Int64 → List Value → Prop) : Prop := match st with
  | .long x :: r => P x r
  | _ => False
def px_l2 (st : List Value) (P : Int64 → Int64 → List Value → Prop) : Prop := match st with
  | .long y :: .long x :: r => P x y r
  | _ => False
def px_il (st : List Value) (P : Int64 → Int32 → List Value → Prop) : Prop := match st with
  | .int y :: .long x :: r => P x y r
  | _ => False
def px_a1 (st : List Value) (P : Value → List Value → Prop) : Prop := match st with
  | .ref o :: r => P (.ref o) r
  | .null :: r => P .null r
  | _ => False
def px_r1 (st : List Value) (P : Nat → List Value → Prop) : Prop := match st with
  | .ref o :: r => P o r
  | _ => False
def px_r2 (st : List Value) (P : Value → Nat → List Value → Prop) : Prop := match st with
  | v :: .ref o :: r => P v o r
  | _ => False
def px_ir (st : List Value) (P : Nat → Int32 → List Value → Prop) : Prop := match st with
  | .int i :: .ref o :: r => P o i r
  | _ => False
def px_vir (st : List Value) (P : Nat → Int32 → Value → List Value → Prop) : Prop := match st with
  | v :: .int i :: .ref o :: r => P o i v r
  | _ => False
def px_g (v : Value) (P : Prop) : Prop := match v with
  | .int _ => P
  | .ref _ => P
  | .null => P
  | _ => False
def px_v1 (st : List Value) (P : Value → List Value → Prop) : Prop := match st with
  | v :: r => px_g v (P v r)
  | _ => False
def px_v2 (st : List Value) (P : Value → Value → List Value → Prop) : Prop := match st with
  | v :: w :: r => px_g v (px_g w (P v w r))
  | _ => False
def px_gf (ph : List px_E) (o a b : Nat) (P : Value → Prop) : Prop := match ph[o]? with
  | some (.inr q) => q.1 = a ∧ match px_nth q.2 b with
    | some v => P v
    | none => False
  | _ => False
def px_pf (f : Nat) (x : Value) (P : Prop) : Prop := match f with
  | 0 => match x with
    | .int _ => P
    | _ => False
  | 1 => match x with
    | .int z => (z = nI 0 ∨ z = nI 1) ∧ P
    | _ => False
  | 2 => match x with
    | .long _ => P
    | _ => False
  | 3 => match x with
    | .ref _ => P
    | .null => P
    | _ => False
  | _ => False
def px_ps (ph : List px_E) (o a b f : Nat) (x : Value) (P : List px_E → Prop) : Prop := match ph[o]? with
  | some (.inr q) => q.1 = a ∧ b < q.2.length ∧ px_pf f x (P (ph.set o (.inr (a, px_upd q.2 b x))))
  | _ => False
def px_ar (ph : List px_E) (o : Nat) (i : Int32) (P : Nat → Nat → ((Nat → Int32) ⊕ (Nat → Int64) ⊕ (Nat → UInt32) ⊕ (Nat → UInt64) ⊕ (Nat → Option Nat)) → Nat → Prop) : Prop := match ph[o]? with
  | some (.inl q) => ∃ j, i = nI j ∧ j < q.2.1 ∧ P q.1 q.2.1 q.2.2 j
  | _ => False
def px_zero (t : Nat) : (Nat → Int32) ⊕ (Nat → Int64) ⊕ (Nat → UInt32) ⊕ (Nat → UInt64) ⊕ (Nat → Option Nat) := match t with
  | 0 => .inl (fun _ => 0)
  | 1 => .inr (.inl (fun _ => 0))
  | 2 => .inl (fun _ => 0)
  | 3 => .inl (fun _ => 0)
  | _ => .inr (.inr (.inr (.inr (fun _ => none))))
def px_tsw (pc : Nat) (dflt lo hi : Int) (offs : Array Int) (x : Int32) : Nat := if x.toInt < lo ∨ hi < x.toInt then ((pc : Int) + dflt).toNat else match offs[(x.toInt - lo).toNat]? with
  | some o => ((pc : Int) + o).toNat
  | none => 0
def px_lsw (pc : Nat) (dflt : Int) (ps : Array (Int × Int)) (x : Int32) : Nat := ((pc : Int) + Op.lookupswitch.offset ps.toList dflt x.toInt).toNat
def px_asok (t ci : Nat) : Bool := decide (px_tys[t]? = (vwCl[ci]?).map (fun r => FieldType.object r.1)) && decide (ci < 13)
def px_wp (mc ms : Nat) (K : Nat → Nat → Nat → List (Option Value) → List Value → List px_E → Prop) (I : px_I) (k n pc : Nat) (pl : List (Option Value)) (st : List Value) (ph : List px_E) : Prop := match I with
  | (.iconst _, nx, _, _, _, v, _) => K k n nx pl (.int v :: st) ph
  | (.bipush _, nx, _, _, _, v, _) => K k n nx pl (.int v :: st) ph
  | (.sipush _, nx, _, _, _, v, _) => K k n nx pl (.int v :: st) ph
  | (.ldc _, nx, _, _, _, v, _) => K k n nx pl (.int v :: st) ph
  | (.ldc_w _, nx, _, _, _, v, _) => K k n nx pl (.int v :: st) ph
  | (.ldc2_w _, nx, a, _, _, _, _) => K k n nx pl (.long (lN a) :: st) ph
  | (.lconst c, nx, _, _, _, _, _) => K k n nx pl (.long (lN c.val) :: st) ph
  | (.aconst_null, nx, _, _, _, _, _) => K k n nx pl (.null :: st) ph
  | (.iload i, nx, _, _, _, _, _) => px_ldi pl i (fun x => K k n nx pl (.int x :: st) ph)
  | (.iload_n i, nx, _, _, _, _, _) => px_ldi pl i.val (fun x => K k n nx pl (.int x :: st) ph)
  | (.lload i, nx, _, _, _, _, _) => px_ldl pl i (fun x => K k n nx pl (.long x :: st) ph)
  | (.lload_n i, nx, _, _, _, _, _) => px_ldl pl i.val (fun x => K k n nx pl (.long x :: st) ph)
  | (.aload i, nx, _, _, _, _, _) => px_lda pl i (fun x => K k n nx pl (x :: st) ph)
  | (.aload_n i, nx, _, _, _, _, _) => px_lda pl i.val (fun x => K k n nx pl (x :: st) ph)
  | (.istore i, nx, _, _, _, _, _) => px_i1 st (fun x r => K k n nx (px_set pl i (.int x)) r ph)
  | (.istore_n i, nx, _, _, _, _, _) => px_i1 st (fun x r => K k n nx (px_set pl i.val (.int x)) r ph)
  | (.lstore i, nx, _, _, _, _, _) => px_l1 st (fun x r => K k n nx (px_set2 pl i (.long x)) r ph)
  | (.lstore_n i, nx, _, _, _, _, _) => px_l1 st (fun x r => K k n nx (px_set2 pl i.val (.long x)) r ph)
  | (.astore i, nx, _, _, _, _, _) => px_a1 st (fun x r => K k n nx (px_set pl i x) r ph)
  | (.astore_n i, nx, _, _, _, _, _) => px_a1 st (fun x r => K k n nx (px_set pl i.val x) r ph)
  | (.iinc i _, nx, _, _, _, v, _) => px_ldi pl i (fun x => K k n nx (px_set pl i (.int (x + v))) st ph)
  | (.iadd, nx, _, _, _, _, _) => px_i2 st (fun x y r => K k n nx pl (.int (x + y) :: r) ph)
  | (.isub, nx, _, _, _, _, _) => px_i2 st (fun x y r => K k n nx pl (.int (x - y) :: r) ph)
  | (.imul, nx, _, _, _, _, _) => px_i2 st (fun x y r => K k n nx pl (.int (x * y) :: r) ph)
  | (.iand, nx, _, _, _, _, _) => px_i2 st (fun x y r => K k n nx pl (.int (x &&& y) :: r) ph)
  | (.ior, nx, _, _, _, _, _) => px_i2 st (fun x y r => K k n nx pl (.int (x ||| y) :: r) ph)
  | (.ixor, nx, _, _, _, _, _) => px_i2 st (fun x y r => K k n nx pl (.int (x ^^^ y) :: r) ph)
  | (.ishl, nx, _, _, _, _, _) => px_i2 st (fun x y r => K k n nx pl (.int (x <<< (y &&& 31)) :: r) ph)
  | (.ishr, nx, _, _, _, _, _) => px_i2 st (fun x y r => K k n nx pl (.int (x >>> (y &&& 31)) :: r) ph)
  | (.iushr, nx, _, _, _, _, _) => px_i2 st (fun x y r => K k n nx pl (.int (x.toUInt32 >>> (y.toUInt32 &&& Int32.toUInt32 31)).toInt32 :: r) ph)
  | (.idiv, nx, _, _, _, _, _) => px_i2 st (fun x y r => ¬ y = 0 ∧ K k n nx pl (.int (x / y) :: r) ph)
  | (.irem, nx, _, _, _, _, _) => px_i2 st (fun x y r => ¬ y = 0 ∧ K k n nx pl (.int (x - x / y * y) :: r) ph)
  | (.lor, nx, _, _, _, _, _) => px_l2 st (fun x y r => K k n nx pl (.long (x ||| y) :: r) ph)
  | (.land, nx, _, _, _, _, _) => px_l2 st (fun x y r => K k n nx pl (.long (x &&& y) :: r) ph)
  | (.lmul, nx, _, _, _, _, _) => px_l2 st (fun x y r => K k n nx pl (.long (x * y) :: r) ph)
  | (.lcmp, nx, _, _, _, _, _) => px_l2 st (fun x y r => K k n nx pl (.int (lg_cmp x y) :: r) ph)
  | (.lshl, nx, _, _, _, _, _) => px_il st (fun x y r => K k n nx pl (.long (x <<< (y.toInt64 &&& 63)) :: r) ph)
  | (.lshr, nx, _, _, _, _, _) => px_il st (fun x y r => K k n nx pl (.long (x >>> (y.toInt64 &&& 63)) :: r) ph)
  | (.lushr, nx, _, _, _, _, _) => px_il st (fun x y r => K k n nx pl (.long (x.toUInt64 >>> (y.toInt64.toUInt64 &&& Int64.toUInt64 63)).toInt64 :: r) ph)
  | (.i2l, nx, _, _, _, _, _) => px_i1 st (fun x r => K k n nx pl (.long x.toInt64 :: r) ph)
  | (.l2i, nx, _, _, _, _, _) => px_l1 st (fun x r => K k n nx pl (.int x.toInt32 :: r) ph)
  | (.i2b, nx, _, _, _, _, _) => px_i1 st (fun x r => K k n nx pl (.int x.toInt8.toInt32 :: r) ph)
  | (.dup, nx, _, _, _, _, _) => px_v1 st (fun x r => K k n nx pl (x :: x :: r) ph)
  | (.pop, nx, _, _, _, _, _) => px_v1 st (fun _ r => K k n nx pl r ph)
  | (.dup_x1, nx, _, _, _, _, _) => px_v2 st (fun x y r => K k n nx pl (x :: y :: x :: r) ph)
  | (.dup2, nx, _, _, _, _, _) => px_v2 st (fun x y r => K k n nx pl (x :: y :: x :: y :: r) ph)
  | (.goto _, _, a, _, _, _, _) => K k n a pl st ph
  | (.ifCond .eq _, nx, a, _, _, _, _) => px_i1 st (fun x r => (x = nI 0 → K k n a pl r ph) ∧ (¬ x = nI 0 → K k n nx pl r ph))
  | (.ifCond .ne _, nx, a, _, _, _, _) => px_i1 st (fun x r => (¬ x = nI 0 → K k n a pl r ph) ∧ (x = nI 0 → K k n nx pl r ph))
  | (.ifCond .lt _, nx, a, _, _, _, _) => px_i1 st (fun x r => (x < nI 0 → K k n a pl r ph) ∧ (¬ x < nI 0 → K k n nx pl r ph))
  | (.ifCond .ge _, nx, a, _, _, _, _) => px_i1 st (fun x r => (¬ x < nI 0 → K k n a pl r ph) ∧ (x < nI 0 → K k n nx pl r ph))
  | (.ifCond .gt _, nx, a, _, _, _, _) => px_i1 st (fun x r => (nI 0 < x → K k n a pl r ph) ∧ (¬ nI 0 < x → K k n nx pl r ph))
  | (.ifCond .le _, nx, a, _, _, _, _) => px_i1 st (fun x r => (¬ nI 0 < x → K k n a pl r ph) ∧ (nI 0 < x → K k n nx pl r ph))
  | (.if_icmp .eq _, nx, a, _, _, _, _) => px_i2 st (fun x y r => (x = y → K k n a pl r ph) ∧ (¬ x = y → K k n nx pl r ph))
  | (.if_icmp .ne _, nx, a, _, _, _, _) => px_i2 st (fun x y r => (¬ x = y → K k n a pl r ph) ∧ (x = y → K k n nx pl r ph))
  | (.if_icmp .lt _, nx, a, _, _, _, _) => px_i2 st (fun x y r => (x < y → K k n a pl r ph) ∧ (¬ x < y → K k n nx pl r ph))
  | (.if_icmp .ge _, nx, a, _, _, _, _) => px_i2 st (fun x y r => (¬ x < y → K k n a pl r ph) ∧ (x < y → K k n nx pl r ph))
  | (.if_icmp .gt _, nx, a, _, _, _, _) => px_i2 st (fun x y r => (y < x → K k n a pl r ph) ∧ (¬ y < x → K k n nx pl r ph))
  | (.if_icmp .le _, nx, a, _, _, _, _) => px_i2 st (fun x y r => (¬ y < x → K k n a pl r ph) ∧ (y < x → K k n nx pl r ph))
  | (.ifnull _, nx, a, _, _, _, _) => px_a1 st (fun x r => match x with
    | .null => K k n a pl r ph
    | _ => K k n nx pl r ph)
  | (.ifnonnull _, nx, a, _, _, _, _) => px_a1 st (fun x r => match x with
    | .null => K k n nx pl r ph
    | _ => K k n a pl r ph)
  | (.tableswitch dflt lo hi offs, _, _, _, _, _, _) => px_i1 st (fun x r => K k n (px_tsw pc dflt lo hi offs x) pl r ph)
  | (.lookupswitch dflt ps, _, _, _, _, _, _) => px_i1 st (fun x r => K k n (px_lsw pc dflt ps x) pl r ph)
  | (.getfield _, nx, a, b, _, _, _) => px_r1 st (fun o r => px_gf ph o a b (fun x => K k n nx pl (x :: r) ph))
  | (.putfield _, nx, a, b, _, _, f) => px_r2 st (fun x o r => px_ps ph o a b f x (fun ph' => K k n nx pl r ph'))
  | (.iaload, nx, _, _, _, _, _) => px_ir st (fun o i r => px_ar ph o i (fun t _ c j => t = 0 ∧ match c with
    | .inl f => K k n nx pl (.int (f j) :: r) ph
    | _ => False))
  | (.baload, nx, _, _, _, _, _) => px_ir st (fun o i r => px_ar ph o i (fun t _ c j => (t = 2 ∨ t = 3) ∧ match c with
    | .inl f => K k n nx pl (.int (f j) :: r) ph
    | _ => False))
  | (.laload, nx, _, _, _, _, _) => px_ir st (fun o i r => px_ar ph o i (fun t _ c j => t = 1 ∧ match c with
    | .inr (.inl f) => K k n nx pl (.long (f j) :: r) ph
    | _ => False))
  | (.aaload, nx, _, _, _, _, _) => px_ir st (fun o i r => px_ar ph o i (fun t _ c j => (4 ≤ t ∧ t < px_tys.length) ∧ match c with
    | .inr (.inr (.inr (.inr f))) => K k n nx pl (va_rf (f j) :: r) ph
    | _ => False))
  | (.iastore, nx, _, _, _, _, _) => px_vir st (fun o i x r => px_ar ph o i (fun t m c j => t = 0 ∧ match c, x with
    | .inl f, .int x => K k n nx pl r (ph.set o (.inl (0, m, .inl (upd f j x))))
    | _, _ => False))
  | (.bastore, nx, _, _, _, _, _) => px_vir st (fun o i x r => px_ar ph o i (fun t m c j => match c, x with
    | .inl f, .int x => (t = 2 ∧ K k n nx pl r (ph.set o (.inl (2, m, .inl (upd f j (vp_nar .byte x)))))) ∨ (t = 3 ∧ K k n nx pl r (ph.set o (.inl (3, m, .inl (upd f j (vp_nar .boolean x))))))
    | _, _ => False))
  | (.lastore, nx, _, _, _, _, _) => px_vir st (fun o i x r => px_ar ph o i (fun t m c j => t = 1 ∧ match c, x with
    | .inr (.inl f), .long x => K k n nx pl r (ph.set o (.inl (1, m, .inr (.inl (vp_updL f j x)))))
    | _, _ => False))
  | (.aastore, nx, _, _, _, _, _) => px_vir st (fun o i x r => px_ar ph o i (fun t m c j => match c, x with
    | .inr (.inr (.inr (.inr f))), .ref q => (∃ (ci : Nat) (vs : List Value), ph[q]? = some (.inr (ci, vs)) ∧ px_asok t ci = true ∧ K k n nx pl r (ph.set o (.inl (t, m, .inr (.inr (.inr (.inr (va_up f j (some q)))))))))
    | _, _ => False))
  | (.arraylength, nx, _, _, _, _, _) => px_r1 st (fun o r => match ph[o]? with
    | some (.inl q) => q.1 < px_tys.length ∧ K k n nx pl (.int (nI q.2.1) :: r) ph
    | _ => False)
  | (.newarray _, nx, a, _, _, _, _) => px_i1 st (fun x r => ∃ j, x = nI j ∧ j ≤ 100000 ∧ k + 1 ≤ mc ∧ n + j ≤ ms ∧ K (k + 1) (n + j) nx pl (.ref ph.length :: r) (ph ++ [.inl (a, j, px_zero a)]))
  | (.anewarray _, nx, a, _, _, _, _) => px_i1 st (fun x r => ∃ j, x = nI j ∧ j ≤ 100000 ∧ k + 1 ≤ mc ∧ n + j ≤ ms ∧ K (k + 1) (n + j) nx pl (.ref ph.length :: r) (ph ++ [.inl (a, j, .inr (.inr (.inr (.inr (fun _ => none)))))]))
  | (.new _, nx, a, _, _, _, _) => match px_nth px_dfl a with
    | some fs => k + 1 ≤ mc ∧ n + fs.length ≤ ms ∧ K (k + 1) (n + fs.length) nx pl (.ref ph.length :: st) (ph ++ [.inr (a, fs)])
    | none => False
  | _ => False
