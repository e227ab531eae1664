/-! what holds between the calls of the law -/
theorem px_Met.mono {G : px_G} {M : px_M} {d mc ms : Nat} {as : List Value} {ph : List px_E} {P Q : Option Value → List px_E → Prop} (h : px_Met G M d mc ms as ph P) (hPQ : ∀ r ph', P r ph' → Q r ph') : px_Met G M d mc ms as ph Q := by
  intro p e a1 a2 a3 s m args below hf happ hP hK
  obtain ⟨n, o, h1, h2, h3, ⟨⟨⟨r, ph', q1, q2, q3⟩, q4⟩, h5⟩⟩ := h p e a1 a2 a3 s m args below hf happ hP hK
  exact ⟨n, o, h1, h2, h3, ⟨⟨r, ph', q1, hPQ r ph' q2, q3⟩, q4⟩, h5⟩
theorem px_Met.wid {G : px_G} {M : px_M} {d mc ms d' mc' ms' : Nat} {as : List Value} {ph : List px_E} {P : Option Value → List px_E → Prop} (h : px_Met G M d mc ms as ph P) (hd : d ≤ d') (hc : mc ≤ mc') (hs : ms ≤ ms') : px_Met G M d' mc' ms' as ph P := by
  intro p e a1 a2 a3 s m args below hf happ hP hK
  have happ' : (headSpec (px_ws M) (px_R d mc ms)).appliesLoose (px_name M) e.platform s = true := by
    unfold Spec.appliesLoose at happ ⊢
    rw [hf] at happ ⊢
    simp only [Bool.and_eq_true] at happ ⊢
    refine ⟨⟨happ.1.1, ?_⟩, happ.2⟩
    have hr := happ.1.2
    have hr : s.hasRoom e.platform (px_R d' mc' ms') = true := hr
    show s.hasRoom e.platform (px_R d mc ms) = true
    have q1 := State.hasRoom_stack hr
    have q2 := State.hasRoom_plain hr
    have q3 := State.hasRoom_real hr
    have q4 := State.hasRoom_heap hr
    have q5 : s.slotsTrue = true := by
      unfold State.hasRoom at hr
      rw [Bool.and_eq_true] at hr
      exact hr.2
    have z1 : (px_R d mc ms).frames ≤ (px_R d' mc' ms').frames := hd
    have z2 : (px_R d mc ms).locals ≤ (px_R d' mc' ms').locals := Nat.mul_le_mul_left 48 hd
    have z3 : (px_R d mc ms).cells ≤ (px_R d' mc' ms').cells := hc
    have z4 : (px_R d mc ms).slots ≤ (px_R d' mc' ms').slots := hs
    exact State.hasRoom_of q2 (by omega) (by omega) (by omega) (by omega) q5 (by omega)
  obtain ⟨n, o, h1, h2, h3, h4, L, ⟨f1, f2, f3, f4, f5, f6, f7, f8⟩, h6⟩ := h p e a1 a2 a3 s m args below hf happ' hP hK
  exact ⟨n, o, h1, h2, h3, h4, L, ⟨f1, f2, f3, f4, Nat.le_trans f5 (Nat.add_le_add_left hc _), f6, Nat.le_trans f7 hs, f8⟩, h6⟩
/-- what a heap says of the cells of a kind, the other one says too -/
def fr (P : Nat → px_E → Prop) (ph ph' : List px_E) : Prop := ∀ k e, P k e → ph[k]? = some e → ph'[k]? = some e
/-- the group of a cell -/
def grp (k : Nat) : Nat := if k < 1 then 0 else if k < 2 then 1 else if k < 35 then 2 else if k < 44 then 3 else if k < 45 then 4 else if k < 50 then 5 else if k < 75 then 6 else if k < 88 then 7 else if k < 100 then 9 else if k < 101 then 10 else if k < 102 then 1 else if k < 115 then 11 else if k < 118 then 4 else if k < 122 then 11 else if k < 127 then 5 else if k < 131 then 6 else if k < 136 then 7 else if k < 142 then 8 else if k < 153 then 9 else 12
/-- cells of other groups than these -/
def FR (gs : List Nat) : Nat → px_E → Prop := fun k _ => gs.contains (grp k) = false
theorem fr_id {P : Nat → px_E → Prop} {ph : List px_E} : fr P ph ph := fun _ _ _ h => h
theorem fr_tr {P : Nat → px_E → Prop} {a b c : List px_E} (h1 : fr P a b) (h2 : fr P b c) : fr P a c := fun k e p h => h2 k e p (h1 k e p h)
theorem fr_set {gs : List Nat} {ph ph' : List px_E} {k : Nat} {x : px_E} (h : fr (FR gs) ph ph') (hk : gs.contains (grp k) = true) : fr (FR gs) ph (ph'.set k x) := fun j e p q => by
  have hne : ¬ k = j := fun z => by
    subst z
    have p : gs.contains (grp k) = false := p
    rw [hk] at p
    cases p
  rw [px_put_ne hne]
  exact h j e p q
theorem fr_app {P : Nat → px_E → Prop} {ph ph' l : List px_E} (h : fr P ph ph') : fr P ph (ph' ++ l) := fun j e p q => by
  have h1 := h j e p q
  rw [List.getElem?_append_left (List.getElem?_eq_some_iff.mp h1).1]
  exact h1
theorem fr_mono {P P' : Nat → px_E → Prop} {ph ph' : List px_E} (h : fr P ph ph') (hP : ∀ k e, P' k e → P k e) : fr P' ph ph' := fun j e p q => h j e (hP j e p) q
/-- the class's object -/
abbrev XO (t mc : Nat) (fd : Value) (sc wl : Nat) : px_E := .inr (11, [.ref 1, .int (nI t), .ref 2, .ref 35, .ref 44, .int (nI mc), .ref 45, .ref 50, .ref 75, fd, .int (nI sc), .int (nI wl), .ref 88])
def iText (t : Nat) (ph : List px_E) : Prop := t ≤ 128 ∧ ∃ ft gt : Nat → Int32, ph[1]? = some (BA 128 ft) ∧ ph[101]? = some (IA 128 gt) ∧ ∀ i, i < t → ft i = gt i ∧ ∃ n, 32 ≤ n ∧ n ≤ 126 ∧ gt i = nI n
def isPT (ph : List px_E) (k : Nat) : Prop := ∃ a b c e z, ph[k]? = some (PT a b c e z)
def isIA (ph : List px_E) (k n : Nat) : Prop := ∃ f, ph[k]? = some (IA n f)
def isLA (ph : List px_E) (k n : Nat) : Prop := ∃ f, ph[k]? = some (LA n f)
def isZA (ph : List px_E) (k n : Nat) : Prop := ∃ f, ph[k]? = some (ZA n f)
def isBA (ph : List px_E) (k n : Nat) : Prop := ∃ f, ph[k]? = some (ZA n f) ∧ ∀ i, i < n → f i = nI 0 ∨ f i = nI 1
def iRead (ph : List px_E) : Prop := (∃ a b c e, ph[2]? = some (RR a b c e)) ∧ (∃ fa, ph[3]? = some (QA 4 11 fa) ∧ ∀ i, i < 11 → fa i = some (13 + 2 * i)) ∧ (∃ fa, ph[4]? = some (QA 4 11 fa) ∧ ∀ i, i < 11 → fa i = some (14 + 2 * i)) ∧ (∀ i, i < 22 → isPT ph (13 + i)) ∧ isPT ph 5 ∧ isIA ph 6 128 ∧ isLA ph 7 128 ∧ isLA ph 8 128 ∧ isLA ph 9 24 ∧ isLA ph 10 24 ∧ isLA ph 11 100 ∧ isLA ph 12 100
def iDraft (ph : List px_E) : Prop := (∃ c, ph[35]? = some (DR c)) ∧ isIA ph 36 2400 ∧ isIA ph 37 100 ∧ isIA ph 38 100 ∧ isIA ph 39 100 ∧ isIA ph 40 24 ∧ isIA ph 41 24 ∧ isIA ph 42 576 ∧ isIA ph 43 24
/-- a machine of the class -/
def isM (ph : List px_E) (a s : Nat) (nx : Nat → Nat → Option Nat) (en : Nat → Bool) : Prop := (1 ≤ s ∧ s ≤ 24 ∧ ∀ u, u < s → ∀ e, e < 24 → ∀ j, nx u e = some j → j < s) ∧ ∃ (p q : Nat) (f g : Nat → Int32), (153 ≤ a ∧ 153 ≤ p ∧ 153 ≤ q) ∧ ph[a]? = some (MC s (sL f (s * 24)) p q) ∧ ph[p]? = some (IA (s * 24) f) ∧ ph[q]? = some (IA s g) ∧ (∀ u, u < s → g u = px_b (en u)) ∧ ∀ u, u < s → ∀ e, e < 24 → f (u * 24 + e) = oI (nx u e)
/-- a machine of the Model -/
def isN (i s : Nat) (nx : Nat → Nat → Option Nat) (en : Nat → Bool) (fs fl fe : Nat → Int32) : Prop := fs i = nI s ∧ (∀ u, u < s → fe (24 * i + u) = px_b (en u)) ∧ ∀ u, u < s → ∀ e, e < 24 → fl (576 * i + 24 * u + e) = oI (nx u e)
def iMach (mc : Nat) (ph : List px_E) : Prop := mc ≤ 12 ∧ ∃ (fq : Nat → Option Nat) (fs fl fe : Nat → Int32), ph[44]? = some (QA 5 12 fq) ∧ ph[115]? = some (IA 12 fs) ∧ ph[116]? = some (IA 6912 fl) ∧ ph[117]? = some (ZA 288 fe) ∧ ∀ i, i < mc → ∃ (a s : Nat) (nx : Nat → Nat → Option Nat) (en : Nat → Bool), fq i = some a ∧ isM ph a s nx en ∧ isN i s nx en fs fl fe
def iComp (rl : Option Nat) (ph : List px_E) : Prop := (∃ c, ph[45]? = some (CM c (oI rl))) ∧ (isIA ph 46 625 ∧ isIA ph 47 625 ∧ isIA ph 48 625) ∧ (isIA ph 122 625 ∧ isIA ph 123 625 ∧ isIA ph 124 625 ∧ isZA ph 125 625) ∧ ∃ f g, ph[49]? = some (IA 625 f) ∧ ph[126]? = some (IA 625 g) ∧ ∀ n, rl = some n → n ≤ 625 ∧ ∀ i, i < n → f i = g i
def iCls (ph : List px_E) : Prop := (∃ fk, ph[50]? = some (QA 6 4 fk) ∧ ∀ i, i < 4 → fk i = some (51 + 6 * i)) ∧ ∃ F0 F1 F2 F3 : Nat → Int32, ph[127]? = some (IA 48 F0) ∧ ph[128]? = some (IA 288 F1) ∧ ph[129]? = some (IA 288 F2) ∧ ph[130]? = some (IA 288 F3) ∧ ∀ i, i < 4 → ∃ fc kd fd vl nw : Nat → Int32, ph[51 + 6 * i]? = some (CC (52 + 6 * i) (53 + 6 * i) (54 + 6 * i) (55 + 6 * i) (56 + 6 * i)) ∧ ph[52 + 6 * i]? = some (IA 12 fc) ∧ ph[53 + 6 * i]? = some (IA 72 kd) ∧ ph[54 + 6 * i]? = some (IA 72 fd) ∧ ph[55 + 6 * i]? = some (IA 72 vl) ∧ ph[56 + 6 * i]? = some (IA 2 nw) ∧ ∀ m, m < 12 → ∃ c, c ≤ 6 ∧ fc m = nI c ∧ F0 (12 * i + m) = nI c ∧ ∀ j, j < c → (kd (m * 6 + j) = F1 (6 * (12 * i + m) + j) ∧ fd (m * 6 + j) = F2 (6 * (12 * i + m) + j) ∧ vl (m * 6 + j) = F3 (6 * (12 * i + m) + j)) ∧ (∃ x, x < 3 ∧ kd (m * 6 + j) = nI x) ∧ (∃ x, x < 2 ∧ fd (m * 6 + j) = nI x) ∧ (∃ x, x < 4 ∧ vl (m * 6 + j) = nI x)
/-- an op that fits -/
def opFit (o a b c : Int32) : Bool := match o.toNatClampNeg with
  | 0 => b_below a 6 && b_below b 4
  | 1 => b_below a 6 && b_below b 4 && b_below c 6
  | 2 => b_below a 6 && b_below b 6
  | 3 => b_below a 6
  | 4 => b_below a 6 && b_below b 12
  | 5 => b_below a 33
  | 6 => b_below a 33
  | 7 => b_below a 6 && b_below b 33
  | 8 => b_below a 6
  | 9 => b_below a 6
  | _ => true
def opOk (o a b c : Int32) : Bool := b_below o 12 && opFit o a b c
def iCode (ph : List px_E) : Prop := (∃ fm, ph[75]? = some (QA 7 4 fm) ∧ ∀ i, i < 4 → fm i = some (76 + 3 * i)) ∧ ∃ F0 F1 F2 F3 F4 : Nat → Int32, ph[131]? = some (IA 4 F0) ∧ ph[132]? = some (IA 128 F1) ∧ ph[133]? = some (IA 128 F2) ∧ ph[134]? = some (IA 128 F3) ∧ ph[135]? = some (IA 128 F4) ∧ ∀ i, i < 4 → ∃ (c : Nat) (f g : Nat → Int32), c ≤ 32 ∧ ph[76 + 3 * i]? = some (CD c (77 + 3 * i) (78 + 3 * i)) ∧ ph[77 + 3 * i]? = some (IA 32 f) ∧ ph[78 + 3 * i]? = some (IA 96 g) ∧ F0 i = nI c ∧ ∀ j, j < c → (F1 (32 * i + j) = f j ∧ F2 (32 * i + j) = g (j * 3) ∧ F3 (32 * i + j) = g (j * 3 + 1) ∧ F4 (32 * i + j) = g (j * 3 + 2)) ∧ opOk (f j) (g (j * 3)) (g (j * 3 + 1)) (g (j * 3 + 2)) = true
/-- the Shapes at o: slots, found, depths, marks, followers, places behind it -/
abbrev SP (o c : Nat) : px_E := .inr (9, [.ref (o + 1), .ref (o + 2), .ref (o + 3), .ref (o + 4), .ref (o + 5), .ref (o + 6), .int (nI c)])
def isS (ph : List px_E) (o : Nat) (pl : Nat → Int32) : Prop := 153 ≤ o ∧ (∃ c, ph[o]? = some (SP o c)) ∧ isIA ph (o + 1) 4096 ∧ isIA ph (o + 2) 3000 ∧ isIA ph (o + 3) 3000 ∧ isIA ph (o + 4) 3000 ∧ isIA ph (o + 5) 9000 ∧ ph[o + 6]? = some (IA 3000 pl)
def iShp (fd : Value) (wl : Nat) (ph : List px_E) : Prop := (isLA ph 136 3001 ∧ isIA ph 137 3001 ∧ isIA ph 138 3001 ∧ isIA ph 139 8192 ∧ isIA ph 141 3001) ∧ wl ≤ 3000 ∧ ∃ wy pl : Nat → Int32, ph[140]? = some (IA 3001 wy) ∧ ((fd = .null ∧ wl = 0) ∨ ∃ o, fd = .ref o ∧ isS ph o pl) ∧ ∀ i, i < wl → pl i = wy i
def iDrawn (ph : List px_E) : Prop := (∃ a b c e f, ph[88]? = some (DN a b c e f)) ∧ ph[89]? = some TL ∧ (isIA ph 94 6 ∧ isIA ph 95 200 ∧ isIA ph 96 200 ∧ isIA ph 97 200 ∧ isIA ph 98 200 ∧ isIA ph 99 200) ∧ (isIA ph 142 201 ∧ isIA ph 143 201 ∧ isIA ph 144 201 ∧ isIA ph 145 201 ∧ isZA ph 146 201 ∧ isIA ph 147 6 ∧ isIA ph 148 201) ∧ ∃ f0 f1 f2 f3 g0 g1 g2 g3 : Nat → Int32, (ph[90]? = some (IA 4 f0) ∧ ph[91]? = some (IA 48 f1) ∧ ph[92]? = some (IA 48 f2) ∧ ph[93]? = some (IA 576 f3)) ∧ (ph[149]? = some (IA 4 g0) ∧ ph[150]? = some (IA 48 g1) ∧ ph[151]? = some (IA 48 g2) ∧ ph[152]? = some (IA 576 g3)) ∧ (∀ i, i < 4 → f0 i = g0 i) ∧ (∀ i, i < 48 → f1 i = g1 i) ∧ (∀ i, i < 48 → f2 i = g2 i) ∧ ∀ i, i < 576 → f3 i = g3 i
def iMod (ph : List px_E) : Prop := isIA ph 102 128 ∧ isLA ph 103 128 ∧ isLA ph 104 128 ∧ isBA ph 105 40 ∧ isLA ph 106 40 ∧ isLA ph 107 40 ∧ isLA ph 108 40 ∧ isLA ph 109 40 ∧ isBA ph 110 12 ∧ isIA ph 111 2424 ∧ isZA ph 112 101 ∧ isLA ph 113 101 ∧ isLA ph 114 101 ∧ isIA ph 118 101 ∧ isIA ph 119 101 ∧ isIA ph 120 101 ∧ isIA ph 121 101
def mnum (rl : Option Nat) : Int32 := match rl with
  | none => -1
  | some n => nI n
def wnum (wl : Nat) : Int32 := if wl = 0 then -1 else nI wl
def Inv (ph : List px_E) : Prop := ∃ (t mc : Nat) (fd : Value) (sc wl : Nat) (rl : Option Nat) (m : Nat → Int32), (ph[0]? = some (XO t mc fd sc wl) ∧ ph[100]? = some (MD m)) ∧ (m 0 = nI t ∧ m 5 = nI mc ∧ m 6 = mnum rl ∧ m 7 = nI sc ∧ m 10 = wnum wl) ∧ iText t ph ∧ iRead ph ∧ iDraft ph ∧ iMach mc ph ∧ iComp rl ph ∧ iCls ph ∧ iCode ph ∧ iShp fd wl ph ∧ iDrawn ph ∧ iMod ph
/-! frames of the groups -/
section FRM
variable {P : Nat → px_E → Prop} {ph ph' : List px_E}
theorem isPT.fr {k : Nat} (hf : fr P ph ph') (hP : ∀ e, P k e) (h : isPT ph k) : isPT ph' k := by
  obtain ⟨a, b, c, e, z, h⟩ := h
  exact ⟨a, b, c, e, z, hf _ _ (hP _) h⟩
theorem isIA.fr {k n : Nat} (hf : fr P ph ph') (hP : ∀ e, P k e) (h : isIA ph k n) : isIA ph' k n := h.elim fun f h => ⟨f, hf _ _ (hP _) h⟩
theorem isLA.fr {k n : Nat} (hf : fr P ph ph') (hP : ∀ e, P k e) (h : isLA ph k n) : isLA ph' k n := h.elim fun f h => ⟨f, hf _ _ (hP _) h⟩
theorem isZA.fr {k n : Nat} (hf : fr P ph ph') (hP : ∀ e, P k e) (h : isZA ph k n) : isZA ph' k n := h.elim fun f h => ⟨f, hf _ _ (hP _) h⟩
theorem isBA.fr {k n : Nat} (hf : fr P ph ph') (hP : ∀ e, P k e) (h : isBA ph k n) : isBA ph' k n := h.elim fun f h => ⟨f, hf _ _ (hP _) h.1, h.2⟩
theorem iText.fr {t : Nat} (hf : fr P ph ph') (hP : ∀ k e, grp k = 1 → P k e) (h : iText t ph) : iText t ph' := by
  obtain ⟨h1, ft, gt, h2, h3, h4⟩ := h
  exact ⟨h1, ft, gt, hf _ _ (hP _ _ rfl) h2, hf _ _ (hP _ _ rfl) h3, h4⟩
theorem grp_pt {i : Nat} (h : i < 22) : grp (13 + i) = 2 := by
  unfold grp
  rw [if_neg (by omega), if_neg (by omega), if_pos (by omega)]
theorem iRead.fr (hf : fr P ph ph') (hP : ∀ k e, grp k = 2 → P k e) (h : iRead ph) : iRead ph' := by
  obtain ⟨⟨a, b, c, e, h1⟩, ⟨fa, h2, h2'⟩, ⟨fb, h3, h3'⟩, h4, h5, h6, h7, h8, h9, h10, h11, h12⟩ := h
  have q : ∀ k, grp k = 2 → ∀ e, P k e := fun k h e => hP k e h
  exact ⟨⟨a, b, c, e, hf _ _ (hP _ _ rfl) h1⟩, ⟨fa, hf _ _ (hP _ _ rfl) h2, h2'⟩, ⟨fb, hf _ _ (hP _ _ rfl) h3, h3'⟩, fun i hi => (h4 i hi).fr hf (q _ (grp_pt hi)), h5.fr hf (q _ rfl), h6.fr hf (q _ rfl), h7.fr hf (q _ rfl), h8.fr hf (q _ rfl), h9.fr hf (q _ rfl), h10.fr hf (q _ rfl), h11.fr hf (q _ rfl), h12.fr hf (q _ rfl)⟩
theorem iDraft.fr (hf : fr P ph ph') (hP : ∀ k e, grp k = 3 → P k e) (h : iDraft ph) : iDraft ph' := by
  obtain ⟨⟨c, h1⟩, h5, h6, h7, h8, h9, h10, h11, h12⟩ := h
  have q : ∀ k, grp k = 3 → ∀ e, P k e := fun k h e => hP k e h
  exact ⟨⟨c, hf _ _ (hP _ _ rfl) h1⟩, h5.fr hf (q _ rfl), h6.fr hf (q _ rfl), h7.fr hf (q _ rfl), h8.fr hf (q _ rfl), h9.fr hf (q _ rfl), h10.fr hf (q _ rfl), h11.fr hf (q _ rfl), h12.fr hf (q _ rfl)⟩
/-- a cell of a machine, by what it holds -/
def small (e : px_E) : Prop := match e with
  | .inl q => q.2.1 ≤ 576
  | .inr q => q.1 = 6
theorem isM.fr {a s : Nat} {nx : Nat → Nat → Option Nat} {en : Nat → Bool} (hf : fr P ph ph') (hP : ∀ k e, 153 ≤ k → small e → P k e) (h : isM ph a s nx en) : isM ph' a s nx en := by
  obtain ⟨h0, p, q, f, g, ⟨h1, h2, h3⟩, h4, h5, h6, h7⟩ := h
  exact ⟨h0, p, q, f, g, ⟨h1, h2, h3⟩, hf _ _ (hP _ _ h1 rfl) h4, hf _ _ (hP _ _ h2 (show s * 24 ≤ 576 by omega)) h5, hf _ _ (hP _ _ h3 (show s ≤ 576 by omega)) h6, h7⟩
theorem iMach.fr {mc : Nat} (hf : fr P ph ph') (hP : ∀ k e, grp k = 4 → P k e) (hP' : ∀ k e, 153 ≤ k → small e → P k e) (h : iMach mc ph) : iMach mc ph' := by
  obtain ⟨h1, fq, fs, fl, fe, h2, h3, h4, h5, h6⟩ := h
  refine ⟨h1, fq, fs, fl, fe, hf _ _ (hP _ _ rfl) h2, hf _ _ (hP _ _ rfl) h3, hf _ _ (hP _ _ rfl) h4, hf _ _ (hP _ _ rfl) h5, fun i hi => ?_⟩
  obtain ⟨a, s, nx, en, q1, q2, q3⟩ := h6 i hi
  exact ⟨a, s, nx, en, q1, q2.fr hf hP', q3⟩
theorem iComp.fr {rl : Option Nat} (hf : fr P ph ph') (hP : ∀ k e, grp k = 5 → P k e) (h : iComp rl ph) : iComp rl ph' := by
  obtain ⟨⟨c, h1⟩, ⟨h2, h3, h4⟩, ⟨h5, h6, h7, h8⟩, f, g, h9, h10, h11⟩ := h
  have q : ∀ k, grp k = 5 → ∀ e, P k e := fun k h e => hP k e h
  exact ⟨⟨c, hf _ _ (hP _ _ rfl) h1⟩, ⟨h2.fr hf (q _ rfl), h3.fr hf (q _ rfl), h4.fr hf (q _ rfl)⟩, ⟨h5.fr hf (q _ rfl), h6.fr hf (q _ rfl), h7.fr hf (q _ rfl), h8.fr hf (q _ rfl)⟩, f, g, hf _ _ (hP _ _ rfl) h9, hf _ _ (hP _ _ rfl) h10, h11⟩
theorem grp_cl {k : Nat} (h : 50 ≤ k) (h2 : k < 75) : grp k = 6 := by
  unfold grp
  rw [if_neg (by omega), if_neg (by omega), if_neg (by omega), if_neg (by omega), if_neg (by omega), if_neg (by omega), if_pos (by omega)]
theorem grp_cd {k : Nat} (h : 75 ≤ k) (h2 : k < 88) : grp k = 7 := by
  unfold grp
  rw [if_neg (by omega), if_neg (by omega), if_neg (by omega), if_neg (by omega), if_neg (by omega), if_neg (by omega), if_neg (by omega), if_pos (by omega)]
theorem iCls.fr (hf : fr P ph ph') (hP : ∀ k e, grp k = 6 → P k e) (h : iCls ph) : iCls ph' := by
  obtain ⟨⟨fk, h1, h1'⟩, F0, F1, F2, F3, h2, h3, h4, h5, h6⟩ := h
  refine ⟨⟨fk, hf _ _ (hP _ _ rfl) h1, h1'⟩, F0, F1, F2, F3, hf _ _ (hP _ _ rfl) h2, hf _ _ (hP _ _ rfl) h3, hf _ _ (hP _ _ rfl) h4, hf _ _ (hP _ _ rfl) h5, fun i hi => ?_⟩
  obtain ⟨fc, kd, fd, vl, nw, q1, q2, q3, q4, q5, q6, q7⟩ := h6 i hi
  exact ⟨fc, kd, fd, vl, nw, hf _ _ (hP _ _ (grp_cl (by omega) (by omega))) q1, hf _ _ (hP _ _ (grp_cl (by omega) (by omega))) q2, hf _ _ (hP _ _ (grp_cl (by omega) (by omega))) q3, hf _ _ (hP _ _ (grp_cl (by omega) (by omega))) q4, hf _ _ (hP _ _ (grp_cl (by omega) (by omega))) q5, hf _ _ (hP _ _ (grp_cl (by omega) (by omega))) q6, q7⟩
theorem iCode.fr (hf : fr P ph ph') (hP : ∀ k e, grp k = 7 → P k e) (h : iCode ph) : iCode ph' := by
  obtain ⟨⟨fk, h1, h1'⟩, F0, F1, F2, F3, F4, h2, h3, h4, h5, h5', h6⟩ := h
  refine ⟨⟨fk, hf _ _ (hP _ _ rfl) h1, h1'⟩, F0, F1, F2, F3, F4, hf _ _ (hP _ _ rfl) h2, hf _ _ (hP _ _ rfl) h3, hf _ _ (hP _ _ rfl) h4, hf _ _ (hP _ _ rfl) h5, hf _ _ (hP _ _ rfl) h5', fun i hi => ?_⟩
  obtain ⟨c, f, g, q0, q1, q2, q3, q4⟩ := h6 i hi
  exact ⟨c, f, g, q0, hf _ _ (hP _ _ (grp_cd (by omega) (by omega))) q1, hf _ _ (hP _ _ (grp_cd (by omega) (by omega))) q2, hf _ _ (hP _ _ (grp_cd (by omega) (by omega))) q3, q4⟩
theorem iShp.fr {fd : Value} {wl : Nat} (hf : fr P ph ph') (hP : ∀ k e, grp k = 8 → P k e) (hP' : ∀ k e, 153 ≤ k → P k e) (h : iShp fd wl ph) : iShp fd wl ph' := by
  obtain ⟨⟨h1, h2, h3, h4, h5⟩, h6, wy, pl, h7, h8, h9⟩ := h
  have q : ∀ k, grp k = 8 → ∀ e, P k e := fun k h e => hP k e h
  refine ⟨⟨h1.fr hf (q _ rfl), h2.fr hf (q _ rfl), h3.fr hf (q _ rfl), h4.fr hf (q _ rfl), h5.fr hf (q _ rfl)⟩, h6, wy, pl, hf _ _ (hP _ _ rfl) h7, ?_, h9⟩
  rcases h8 with h8 | ⟨o, h8, g0, ⟨c, g1⟩, g2, g3, g4, g5, g6, g7⟩
  · exact Or.inl h8
  · have r : ∀ k, 153 ≤ k → ∀ e, P k e := fun k h e => hP' k e h
    exact Or.inr ⟨o, h8, g0, ⟨c, hf _ _ (hP' _ _ g0) g1⟩, g2.fr hf (r _ (by omega)), g3.fr hf (r _ (by omega)), g4.fr hf (r _ (by omega)), g5.fr hf (r _ (by omega)), g6.fr hf (r _ (by omega)), hf _ _ (hP' _ _ (by omega)) g7⟩
theorem iDrawn.fr (hf : fr P ph ph') (hP : ∀ k e, grp k = 9 → P k e) (h : iDrawn ph) : iDrawn ph' := by
  obtain ⟨⟨a, b, c, e, f, h1⟩, h2, ⟨h3, h4, h5, h6, h7, h8⟩, ⟨h9, h10, h11, h12, h13, h14, h15⟩, f0, f1, f2, f3, g0, g1, g2, g3, ⟨h16, h17, h18, h19⟩, ⟨h20, h21, h22, h23⟩, h24⟩ := h
  have q : ∀ k, grp k = 9 → ∀ e, P k e := fun k h e => hP k e h
  exact ⟨⟨a, b, c, e, f, hf _ _ (hP _ _ rfl) h1⟩, hf _ _ (hP _ _ rfl) h2, ⟨h3.fr hf (q _ rfl), h4.fr hf (q _ rfl), h5.fr hf (q _ rfl), h6.fr hf (q _ rfl), h7.fr hf (q _ rfl), h8.fr hf (q _ rfl)⟩, ⟨h9.fr hf (q _ rfl), h10.fr hf (q _ rfl), h11.fr hf (q _ rfl), h12.fr hf (q _ rfl), h13.fr hf (q _ rfl), h14.fr hf (q _ rfl), h15.fr hf (q _ rfl)⟩, f0, f1, f2, f3, g0, g1, g2, g3, ⟨hf _ _ (hP _ _ rfl) h16, hf _ _ (hP _ _ rfl) h17, hf _ _ (hP _ _ rfl) h18, hf _ _ (hP _ _ rfl) h19⟩, ⟨hf _ _ (hP _ _ rfl) h20, hf _ _ (hP _ _ rfl) h21, hf _ _ (hP _ _ rfl) h22, hf _ _ (hP _ _ rfl) h23⟩, h24⟩
theorem iMod.fr (hf : fr P ph ph') (hP : ∀ k e, grp k = 11 → P k e) (h : iMod ph) : iMod ph' := by
  obtain ⟨h1, h2, h3, h4, h5, h6, h7, h8, h9, h10, h11, h12, h13, h14, h15, h16, h17⟩ := h
  have q : ∀ k, grp k = 11 → ∀ e, P k e := fun k h e => hP k e h
  exact ⟨h1.fr hf (q _ rfl), h2.fr hf (q _ rfl), h3.fr hf (q _ rfl), h4.fr hf (q _ rfl), h5.fr hf (q _ rfl), h6.fr hf (q _ rfl), h7.fr hf (q _ rfl), h8.fr hf (q _ rfl), h9.fr hf (q _ rfl), h10.fr hf (q _ rfl), h11.fr hf (q _ rfl), h12.fr hf (q _ rfl), h13.fr hf (q _ rfl), h14.fr hf (q _ rfl), h15.fr hf (q _ rfl), h16.fr hf (q _ rfl), h17.fr hf (q _ rfl)⟩
end FRM
theorem FR_of {gs : List Nat} {g : Nat} (h : gs.contains g = false) : ∀ k e, grp k = g → FR gs k e := fun k e hk => by
  show gs.contains (grp k) = false
  rw [hk]; exact h
theorem grp_dy {k : Nat} (h : 153 ≤ k) : grp k = 12 := by
  unfold grp
  repeat rw [if_neg (by omega)]
theorem FR_dy {gs : List Nat} (h : gs.contains 12 = false) : ∀ k e, 153 ≤ k → FR gs k e := fun k e hk => FR_of h k e (grp_dy hk)
theorem FR_sm {gs : List Nat} (h : gs.contains 12 = false) : ∀ k e, 153 ≤ k → small e → FR gs k e := fun k e hk _ => FR_dy h k e hk
/-- it holds at the start -/
theorem inv_0 (fa fr fk fm : Nat → Option Nat) (h1 : ∀ i, i < 11 → fa i = some (13 + 2 * i)) (h2 : ∀ i, i < 11 → fr i = some (14 + 2 * i)) (h3 : ∀ i, i < 4 → fk i = some (51 + 6 * i)) (h4 : ∀ i, i < 4 → fm i = some (76 + 3 * i)) : Inv (cls0 fa fr fk fm ++ mdl0) := by
  have I : ∀ k n, (cls0 fa fr fk fm ++ mdl0)[k]? = some (IA n zI) → isIA (cls0 fa fr fk fm ++ mdl0) k n := fun k n h => ⟨zI, h⟩
  have L : ∀ k n, (cls0 fa fr fk fm ++ mdl0)[k]? = some (LA n zL) → isLA (cls0 fa fr fk fm ++ mdl0) k n := fun k n h => ⟨zL, h⟩
  have Z : ∀ k n, (cls0 fa fr fk fm ++ mdl0)[k]? = some (ZA n zI) → isZA (cls0 fa fr fk fm ++ mdl0) k n := fun k n h => ⟨zI, h⟩
  have PP : ∀ k, (cls0 fa fr fk fm ++ mdl0)[k]? = some PZ → isPT (cls0 fa fr fk fm ++ mdl0) k := fun k h => ⟨0, 0, 0, 0, false, h⟩
  have B : ∀ k n, (cls0 fa fr fk fm ++ mdl0)[k]? = some (ZA n zI) → isBA (cls0 fa fr fk fm ++ mdl0) k n := fun k n h => ⟨zI, h, fun _ _ => Or.inl nI_0.symm⟩
  refine ⟨0, 0, .null, 0, 0, none, m0, ⟨rfl, rfl⟩, ⟨rfl, rfl, rfl, rfl, rfl⟩, ⟨by omega, zI, zI, rfl, rfl, fun i hi => absurd hi (by omega)⟩, ⟨⟨0, 0, 0, 0, rfl⟩, ⟨fa, rfl, h1⟩, ⟨fr, rfl, h2⟩, ?_, PP _ rfl, I _ _ rfl, L _ _ rfl, L _ _ rfl, L _ _ rfl, L _ _ rfl, L _ _ rfl, L _ _ rfl⟩, ⟨⟨0, rfl⟩, I _ _ rfl, I _ _ rfl, I _ _ rfl, I _ _ rfl, I _ _ rfl, I _ _ rfl, I _ _ rfl, I _ _ rfl⟩, ⟨by omega, zQ, zI, zI, zI, rfl, rfl, rfl, rfl, fun i hi => absurd hi (by omega)⟩, ⟨⟨0, rfl⟩, ⟨I _ _ rfl, I _ _ rfl, I _ _ rfl⟩, ⟨I _ _ rfl, I _ _ rfl, I _ _ rfl, Z _ _ rfl⟩, zI, zI, rfl, rfl, fun n hn => by cases hn⟩, ⟨⟨fk, rfl, h3⟩, zI, zI, zI, zI, rfl, rfl, rfl, rfl, fun i hi => ?_⟩, ⟨⟨fm, rfl, h4⟩, zI, zI, zI, zI, zI, rfl, rfl, rfl, rfl, rfl, fun i hi => ?_⟩, ⟨⟨L _ _ rfl, I _ _ rfl, I _ _ rfl, I _ _ rfl, I _ _ rfl⟩, by omega, zI, zI, rfl, Or.inl ⟨rfl, rfl⟩, fun i hi => rfl⟩, ⟨⟨0, 0, 0, 0, 0, rfl⟩, rfl, ⟨I _ _ rfl, I _ _ rfl, I _ _ rfl, I _ _ rfl, I _ _ rfl, I _ _ rfl⟩, ⟨I _ _ rfl, I _ _ rfl, I _ _ rfl, I _ _ rfl, Z _ _ rfl, I _ _ rfl, I _ _ rfl⟩, zI, zI, zI, zI, zI, zI, zI, zI, ⟨rfl, rfl, rfl, rfl⟩, ⟨rfl, rfl, rfl, rfl⟩, fun _ _ => rfl, fun _ _ => rfl, fun _ _ => rfl, fun _ _ => rfl⟩, I _ _ rfl, L _ _ rfl, L _ _ rfl, B _ _ rfl, L _ _ rfl, L _ _ rfl, L _ _ rfl, L _ _ rfl, B _ _ rfl, I _ _ rfl, Z _ _ rfl, L _ _ rfl, L _ _ rfl, I _ _ rfl, I _ _ rfl, I _ _ rfl, I _ _ rfl⟩
  · intro i hi
    match i, hi with
    | 0, _ => exact PP _ rfl
    | 1, _ => exact PP _ rfl
    | 2, _ => exact PP _ rfl
    | 3, _ => exact PP _ rfl
    | 4, _ => exact PP _ rfl
    | 5, _ => exact PP _ rfl
    | 6, _ => exact PP _ rfl
    | 7, _ => exact PP _ rfl
    | 8, _ => exact PP _ rfl
    | 9, _ => exact PP _ rfl
    | 10, _ => exact PP _ rfl
    | 11, _ => exact PP _ rfl
    | 12, _ => exact PP _ rfl
    | 13, _ => exact PP _ rfl
    | 14, _ => exact PP _ rfl
    | 15, _ => exact PP _ rfl
    | 16, _ => exact PP _ rfl
    | 17, _ => exact PP _ rfl
    | 18, _ => exact PP _ rfl
    | 19, _ => exact PP _ rfl
    | 20, _ => exact PP _ rfl
    | 21, _ => exact PP _ rfl
    | i + 22, h => omega
  · match i, hi with
    | 0, _ => exact ⟨zI, zI, zI, zI, zI, rfl, rfl, rfl, rfl, rfl, rfl, fun m hm => ⟨0, by omega, rfl, rfl, fun j hj => absurd hj (by omega)⟩⟩
    | 1, _ => exact ⟨zI, zI, zI, zI, zI, rfl, rfl, rfl, rfl, rfl, rfl, fun m hm => ⟨0, by omega, rfl, rfl, fun j hj => absurd hj (by omega)⟩⟩
    | 2, _ => exact ⟨zI, zI, zI, zI, zI, rfl, rfl, rfl, rfl, rfl, rfl, fun m hm => ⟨0, by omega, rfl, rfl, fun j hj => absurd hj (by omega)⟩⟩
    | 3, _ => exact ⟨zI, zI, zI, zI, zI, rfl, rfl, rfl, rfl, rfl, rfl, fun m hm => ⟨0, by omega, rfl, rfl, fun j hj => absurd hj (by omega)⟩⟩
    | i + 4, h => omega
  · match i, hi with
    | 0, _ => exact ⟨0, zI, zI, by omega, rfl, rfl, rfl, rfl, fun j hj => absurd hj (by omega)⟩
    | 1, _ => exact ⟨0, zI, zI, by omega, rfl, rfl, rfl, rfl, fun j hj => absurd hj (by omega)⟩
    | 2, _ => exact ⟨0, zI, zI, by omega, rfl, rfl, rfl, rfl, fun j hj => absurd hj (by omega)⟩
    | 3, _ => exact ⟨0, zI, zI, by omega, rfl, rfl, rfl, rfl, fun j hj => absurd hj (by omega)⟩
    | i + 4, h => omega
