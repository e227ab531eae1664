/-! the Model's search, level by level, over numbers -/
def kyM (rk cf sh : Nat → Nat) (x : Nat) : Nat := rk (cf x) * 64 + dg (sh x) 22 9
/-- in a level: shapes [a, c0) are looked through in turn, up to q -/
def mG (S : Nat → List Nat) (bk : Nat → Bool) (a c0 q l : Nat) (rk lv tn : Nat → Nat) (br : Option Nat) (st : NS) : Prop := (1 ≤ c0 ∧ a ≤ c0 ∧ c0 ≤ st.1 ∧ st.1 ≤ 3000 ∧ st.2.1 0 = 0 ∧ lv 0 = 0) ∧ (∀ x, x < st.1 → ∀ y, y < st.1 → st.2.1 x = st.2.1 y → x = y) ∧ (∀ x, x < st.1 → gD S (lv x) (st.2.1 x)) ∧ (∀ x, x < st.1 → (x < a → lv x < l) ∧ (a ≤ x → x < c0 → lv x = l) ∧ (c0 ≤ x → lv x = l + 1)) ∧ (st.2.2.2 = false → (∀ x, x < a → ∀ y, y ∈ S (st.2.1 x) → ∃ b, b < st.1 ∧ st.2.1 b = y) ∧ ∀ q', a ≤ q' → q' < q → ∀ y, y ∈ S (st.2.1 (tn q')) → ∃ b, b < st.1 ∧ st.2.1 b = y) ∧ (∀ x, 0 < x → x < st.1 → st.2.2.1 x < c0 ∧ lv (st.2.2.1 x) + 1 = lv x ∧ st.2.1 x ∈ S (st.2.1 (st.2.2.1 x)) ∧ ∀ b, b < c0 → lv b + 1 = lv x → st.2.1 x ∈ S (st.2.1 b) → rk (st.2.2.1 x) ≤ rk b) ∧ ((∀ x y, 0 < x → x < c0 → 0 < y → y < c0 → lv x = lv y → (rk x < rk y ↔ kyM rk st.2.2.1 st.2.1 x < kyM rk st.2.2.1 st.2.1 y)) ∧ ∀ x, x < c0 → rk x ≤ 3000) ∧ ((∀ p, a ≤ p → p < c0 → a ≤ tn p ∧ tn p < c0) ∧ (∀ x, a ≤ x → x < c0 → ∃ p, a ≤ p ∧ p < c0 ∧ tn p = x) ∧ ∀ p p', a ≤ p → p ≤ p' → p' < c0 → rk (tn p) ≤ rk (tn p')) ∧ ((br = none → (∀ x, x < a → bk (st.2.1 x) = false) ∧ ∀ p, a ≤ p → p < q → bk (st.2.1 (tn p)) = false) ∧ ∀ k, br = some k → bk (st.2.1 k) = true ∧ (k < a ∨ ∃ p, a ≤ p ∧ p < q ∧ k = tn p) ∧ (∀ b, b < a → bk (st.2.1 b) = true → lv k < lv b ∨ (lv k = lv b ∧ rk k ≤ rk b)) ∧ ∀ p, a ≤ p → p < q → bk (st.2.1 (tn p)) = true → lv k < lv (tn p) ∨ (lv k = lv (tn p) ∧ rk k ≤ rk (tn p))) ∧ (st.2.2.2 = true → gX S)
/-- the first that breaks -/
def brS (br : Option Nat) (b : Bool) (k : Nat) : Option Nat := match br with
  | some k0 => some k0
  | none => if b = true then some k else none
section MGG
variable {S : Nat → List Nat} {bk : Nat → Bool} {a c0 q l : Nat} {rk lv tn : Nat → Nat} {br : Option Nat} {st : NS}
theorem mtB_f {sh : Nat → Nat} {c x : Nat} (h : mtB sh c x = false) : ∀ j, j < c → ¬ sh j = x := mtB_no h
theorem mG_note (h : mG S bk a c0 q l rk lv tn br st) (hq1 : a ≤ q) (hq2 : q < c0) {x : Nat} (hx : x ∈ S (st.2.1 (tn q))) : ∃ lv', mG S bk a c0 q l rk lv' tn br (ntS st (tn q) x) ∧ (∀ b, b < c0 → (ntS st (tn q) x).2.1 b = st.2.1 b) ∧ ((ntS st (tn q) x).2.2.2 = false → (∃ b, b < (ntS st (tn q) x).1 ∧ (ntS st (tn q) x).2.1 b = x) ∧ st.2.2.2 = false ∧ ∀ y, (∃ b, b < st.1 ∧ st.2.1 b = y) → ∃ b, b < (ntS st (tn q) x).1 ∧ (ntS st (tn q) x).2.1 b = y) := by
  obtain ⟨c, sh, cf, tm⟩ := st
  have h0 := h
  obtain ⟨⟨g1, g2, g3, g4, g5, g6⟩, g7, g8, g9, g10, g11, g12, ⟨g13, g14, g15⟩, g16, g17⟩ := h
  simp only at g3 g4 g5 g7 g8 g9 g10 g11 g12 g16 g17 hx
  by_cases hm : (mtB sh c x || tm) = true
  · have e : ntS (c, sh, cf, tm) (tn q) x = (c, sh, cf, tm) := if_pos hm
    rw [e]
    refine ⟨lv, h0, fun _ _ => rfl, fun ht => ⟨?_, ht, fun _ hy => hy⟩⟩
    have ht : tm = false := ht
    rw [ht, Bool.or_false] at hm
    exact (mtB_iff c).mp hm
  have hmt : mtB sh c x = false := by
    cases hq : mtB sh c x with
    | false => rfl
    | true => rw [hq] at hm; exact absurd rfl hm
  have htm : tm = false := by
    cases hq : tm with
    | false => rfl
    | true => rw [hq, Bool.or_true] at hm; exact absurd rfl hm
  subst htm
  have hno := mtB_f hmt
  obtain ⟨t1, t2⟩ := g13 q hq1 hq2
  have hlk : lv (tn q) = l := (g9 (tn q) (by omega)).2.1 t1 t2
  obtain ⟨f1, f2⟩ := g10 rfl
  by_cases hc : c = 3000
  · have e : ntS (c, sh, cf, false) (tn q) x = (c, sh, cf, true) := by
      unfold ntS
      rw [if_neg hm, if_pos hc]
    rw [e]
    refine ⟨lv, ⟨⟨g1, g2, g3, g4, g5, g6⟩, g7, g8, g9, fun ht => (by cases ht), g11, g12, ⟨g13, g14, g15⟩, g16, fun _ => ?_⟩, fun _ _ => rfl, fun ht => (by cases ht)⟩
    subst hc
    refine ⟨va_up sh 3000 x, fun i hi j hj e => ?_, fun i hi => ?_⟩
    · by_cases hi3 : i = 3000
      · by_cases hj3 : j = 3000
        · omega
        · subst hi3
          rw [va_up_s, va_up_n hj3] at e
          exact absurd e.symm (hno j (by omega))
      · by_cases hj3 : j = 3000
        · subst hj3
          rw [va_up_s, va_up_n hi3] at e
          exact absurd e (hno i (by omega))
        · rw [va_up_n hi3, va_up_n hj3] at e
          exact g7 i (by omega) j (by omega) e
    · by_cases hi3 : i = 3000
      · subst hi3
        rw [va_up_s]
        exact ⟨lv (tn q) + 1, sh (tn q), (g8 (tn q) (by omega)).1, hx⟩
      · rw [va_up_n hi3]
        exact ⟨_, (g8 i (by omega)).1⟩
  · have e : ntS (c, sh, cf, false) (tn q) x = (c + 1, va_up sh c x, va_up cf c (tn q), false) := by
      unfold ntS
      rw [if_neg hm, if_neg hc]
    rw [e]
    have sb : ∀ b, b < c → va_up sh c x b = sh b := fun b hb => va_up_n (by omega)
    have lb : ∀ b, b < c → va_up lv c (l + 1) b = lv b := fun b hb => va_up_n (by omega)
    -- what lies nearer is looked through
    have near : ∀ j, j < l → ∀ y, gR S j y → ∃ b, b < a ∧ sh b = y := by
      have fin : ∀ j, j < l → ∀ y, gR S j y → (∃ b, b < c ∧ sh b = y) → ∃ b, b < a ∧ sh b = y := by
        intro j hj y hy ⟨b, hb, e⟩
        refine ⟨b, ?_, e⟩
        have hd := gD_le (g8 b hb) (by rw [e]; exact hy)
        rcases Nat.lt_or_ge b a with z | z
        · exact z
        · rcases Nat.lt_or_ge b c0 with z2 | z2
          · have := (g9 b hb).2.1 z z2
            omega
          · have := (g9 b hb).2.2 z2
            omega
      intro j
      induction j with
      | zero =>
        intro hj y hy
        have hy' : y = 0 := hy
        exact fin 0 hj y hy ⟨0, by omega, by rw [g5, hy']⟩
      | succ j ih =>
        intro hj y hy
        have hy0 := hy
        obtain ⟨w, hw, hyw⟩ := hy
        obtain ⟨b, hb, e⟩ := ih (by omega) w hw
        exact fin _ hj y hy0 (f1 b hb y (by rw [e]; exact hyw))
    refine ⟨va_up lv c (l + 1), ⟨⟨g1, g2, by show c0 ≤ c + 1; omega, by show c + 1 ≤ 3000; omega, by show va_up sh c x 0 = 0; rw [sb 0 (by omega)]; exact g5, by rw [lb 0 (by omega)]; exact g6⟩, fun i hi j hj e => ?_, fun i hi => ?_, fun i hi => ?_, fun _ => ⟨fun i hi y hy => ?_, fun q' h1 h2 y hy => ?_⟩, fun i hi0 hi => ?_, ⟨fun i j hi0 hi hj0 hj hl => ?_, g12.2⟩, ⟨g13, g14, g15⟩, ⟨fun hb => ⟨fun i hi => ?_, fun p h1 h2 => ?_⟩, fun k hb => ?_⟩, fun ht => (by cases ht)⟩, fun b hb => sb b (by omega), fun _ => ⟨⟨c, Nat.lt_succ_self c, va_up_s⟩, rfl, fun y ⟨b, hb, e⟩ => ⟨b, Nat.lt_succ_of_lt hb, by show va_up sh c x b = y; rw [sb b hb]; exact e⟩⟩⟩
    · have hi : i < c + 1 := hi
      have hj : j < c + 1 := hj
      have e : va_up sh c x i = va_up sh c x j := e
      by_cases hi3 : i = c
      · by_cases hj3 : j = c
        · omega
        · rw [hi3, va_up_s, va_up_n hj3] at e
          exact absurd e.symm (hno j (by omega))
      · by_cases hj3 : j = c
        · rw [hj3, va_up_s, va_up_n hi3] at e
          exact absurd e (hno i (by omega))
        · rw [va_up_n hi3, va_up_n hj3] at e
          exact g7 i (by omega) j (by omega) e
    · have hi : i < c + 1 := hi
      show gD S (va_up lv c (l + 1) i) (va_up sh c x i)
      by_cases hi3 : i = c
      · rw [hi3, va_up_s, va_up_s]
        refine ⟨⟨sh (tn q), by rw [← hlk]; exact (g8 (tn q) (by omega)).1, hx⟩, fun j hj hr => ?_⟩
        cases j with
        | zero =>
          have hr : x = 0 := hr
          exact hno 0 (by omega) (by rw [g5, hr])
        | succ j =>
          obtain ⟨w, hw, hxw⟩ := hr
          obtain ⟨b, hb, e⟩ := near j (by omega) w hw
          obtain ⟨b', hb', e'⟩ := f1 b hb x (by rw [e]; exact hxw)
          exact hno b' hb' e'
      · rw [va_up_n hi3, va_up_n hi3]
        exact g8 i (by omega)
    · have hi : i < c + 1 := hi
      by_cases hi3 : i = c
      · rw [hi3, va_up_s]
        exact ⟨fun z => by omega, fun z1 z2 => by omega, fun _ => rfl⟩
      · rw [va_up_n hi3]
        exact g9 i (by omega)
    · have hy : y ∈ S (va_up sh c x i) := hy
      rw [sb i (by omega)] at hy
      obtain ⟨b, hb, e⟩ := f1 i hi y hy
      exact ⟨b, Nat.lt_succ_of_lt hb, by show va_up sh c x b = y; rw [sb b hb]; exact e⟩
    · have h3 := g13 q' h1 (by omega)
      have hy : y ∈ S (va_up sh c x (tn q')) := hy
      rw [sb (tn q') (by omega)] at hy
      obtain ⟨b, hb, e⟩ := f2 q' h1 h2 y hy
      exact ⟨b, Nat.lt_succ_of_lt hb, by show va_up sh c x b = y; rw [sb b hb]; exact e⟩
    · have hi : i < c + 1 := hi
      show va_up cf c (tn q) i < c0 ∧ va_up lv c (l + 1) (va_up cf c (tn q) i) + 1 = va_up lv c (l + 1) i ∧ va_up sh c x i ∈ S (va_up sh c x (va_up cf c (tn q) i)) ∧ ∀ b, b < c0 → va_up lv c (l + 1) b + 1 = va_up lv c (l + 1) i → va_up sh c x i ∈ S (va_up sh c x b) → rk (va_up cf c (tn q) i) ≤ rk b
      by_cases hi3 : i = c
      · rw [hi3, va_up_s, va_up_s, va_up_s, lb (tn q) (by omega), sb (tn q) (by omega)]
        refine ⟨t2, by rw [hlk], hx, fun b hb hl hxb => ?_⟩
        rw [lb b (by omega)] at hl
        rw [sb b (by omega)] at hxb
        have hba : a ≤ b := by
          rcases Nat.lt_or_ge b a with z | z
          · have := (g9 b (by omega)).1 z
            omega
          · exact z
        obtain ⟨p, p1, p2, p3⟩ := g14 b hba hb
        rcases Nat.lt_or_ge p q with z | z
        · obtain ⟨b', hb', e'⟩ := f2 p p1 z x (by rw [p3]; exact hxb)
          exact absurd e' (hno b' hb')
        · have := g15 q p hq1 z p2
          rw [p3] at this
          exact this
      · obtain ⟨u1, u2, u3, u4⟩ := g11 i hi0 (by omega)
        rw [va_up_n hi3, lb i (by omega), lb (cf i) (by omega), sb i (by omega), sb (cf i) (by omega)]
        refine ⟨u1, u2, u3, fun b hb hl hxb => ?_⟩
        rw [lb b (by omega)] at hl
        rw [sb b (by omega)] at hxb
        exact u4 b hb hl hxb
    · rw [lb i (by omega), lb j (by omega)] at hl
      have := g12.1 i j hi0 hi hj0 hj hl
      show rk i < rk j ↔ rk (va_up cf c (tn q) i) * 64 + dg (va_up sh c x i) 22 9 < rk (va_up cf c (tn q) j) * 64 + dg (va_up sh c x j) 22 9
      rw [va_up_n (show ¬ i = c by omega), va_up_n (show ¬ j = c by omega), sb i (by omega), sb j (by omega)]
      exact this
    · show bk (va_up sh c x i) = false
      rw [sb i (by omega)]
      exact (g16.1 hb).1 i hi
    · have h3 := g13 p h1 (by omega)
      show bk (va_up sh c x (tn p)) = false
      rw [sb (tn p) (by omega)]
      exact (g16.1 hb).2 p h1 h2
    · obtain ⟨u1, u2, u3, u4⟩ := g16.2 k hb
      have hk : k < c := by
        rcases u2 with z | ⟨p, p1, p2, p3⟩
        · omega
        · have := g13 p p1 (by omega)
          omega
      show bk (va_up sh c x k) = true ∧ (k < a ∨ ∃ p, a ≤ p ∧ p < q ∧ k = tn p) ∧ (∀ b, b < a → bk (va_up sh c x b) = true → va_up lv c (l + 1) k < va_up lv c (l + 1) b ∨ (va_up lv c (l + 1) k = va_up lv c (l + 1) b ∧ rk k ≤ rk b)) ∧ ∀ p, a ≤ p → p < q → bk (va_up sh c x (tn p)) = true → va_up lv c (l + 1) k < va_up lv c (l + 1) (tn p) ∨ (va_up lv c (l + 1) k = va_up lv c (l + 1) (tn p) ∧ rk k ≤ rk (tn p))
      rw [sb k hk, lb k hk]
      refine ⟨u1, u2, fun b hb2 hbk => ?_, fun p p1 p2 hbk => ?_⟩
      · rw [sb b (by omega)] at hbk
        rw [lb b (by omega)]
        exact u3 b hb2 hbk
      · have h3 := g13 p p1 (by omega)
        rw [sb (tn p) (by omega)] at hbk
        rw [lb (tn p) (by omega)]
        exact u4 p p1 p2 hbk
theorem mG_list (hq1 : a ≤ q) (hq2 : q < c0) : ∀ (L : List Nat) (lv : Nat → Nat) (st : NS), mG S bk a c0 q l rk lv tn br st → (∀ x, x ∈ L → x ∈ S (st.2.1 (tn q))) → ∃ lv', mG S bk a c0 q l rk lv' tn br (ntL st (tn q) L) ∧ (∀ b, b < c0 → (ntL st (tn q) L).2.1 b = st.2.1 b) ∧ ((ntL st (tn q) L).2.2.2 = false → (∀ x, x ∈ L → ∃ b, b < (ntL st (tn q) L).1 ∧ (ntL st (tn q) L).2.1 b = x) ∧ st.2.2.2 = false ∧ ∀ y, (∃ b, b < st.1 ∧ st.2.1 b = y) → ∃ b, b < (ntL st (tn q) L).1 ∧ (ntL st (tn q) L).2.1 b = y)
  | [], lv, st, h, _ => ⟨lv, h, fun _ _ => rfl, fun ht => ⟨fun x hx => (by cases hx), ht, fun _ hy => hy⟩⟩
  | x :: L, lv, st, h, hL => by
    obtain ⟨lv1, h1, e1, f1⟩ := mG_note h hq1 hq2 (hL x List.mem_cons_self)
    have htq : tn q < c0 := (h.2.2.2.2.2.2.2.1.1 q hq1 hq2).2
    obtain ⟨lv2, h2, e2, f2⟩ := mG_list hq1 hq2 L lv1 (ntS st (tn q) x) h1 (fun y hy => by rw [e1 _ htq]; exact hL y (List.mem_cons_of_mem _ hy))
    refine ⟨lv2, h2, fun b hb => (e2 b hb).trans (e1 b hb), fun ht => ?_⟩
    obtain ⟨u1, u2, u3⟩ := f2 ht
    obtain ⟨w1, w2, w3⟩ := f1 u2
    exact ⟨fun y hy => by
      rcases List.mem_cons.mp hy with rfl | hy
      · exact u3 _ w1
      · exact u1 y hy, w2, fun y hy => u3 y (w3 y hy)⟩
/-- one is looked through -/
theorem mG_next (h : mG S bk a c0 q l rk lv tn br st) (hq1 : a ≤ q) (hq2 : q < c0) {L : List Nat} (hL : ∀ x, x ∈ L ↔ x ∈ S (st.2.1 (tn q))) : ∃ lv', mG S bk a c0 (q + 1) l rk lv' tn (brS br (bk (st.2.1 (tn q))) (tn q)) (ntL st (tn q) L) := by
  obtain ⟨lv', h', e, f⟩ := mG_list hq1 hq2 L lv st h (fun x hx => (hL x).mp hx)
  have htq := (h.2.2.2.2.2.2.2.1.1 q hq1 hq2)
  refine ⟨lv', ?_⟩
  generalize ntL st (tn q) L = st' at h' e f ⊢
  have esq := e _ htq.2
  obtain ⟨g0, g7, g8, g9, g10, g11, g12, ⟨g13, g14, g15⟩, g16, g17⟩ := h'
  have hlk : lv' (tn q) = l := (g9 (tn q) (by omega)).2.1 htq.1 htq.2
  refine ⟨g0, g7, g8, g9, fun ht => ⟨(g10 ht).1, fun q' h1 h2 y hy => ?_⟩, g11, g12, ⟨g13, g14, g15⟩, ?_, g17⟩
  · by_cases z : q' = q
    · subst z
      rw [esq] at hy
      exact (f ht).1 y ((hL y).mpr hy)
    · exact (g10 ht).2 q' h1 (by omega) y hy
  · cases hb : br with
    | some k =>
      obtain ⟨u1, u2, u3, u4⟩ := g16.2 k hb
      show ((some k = none → _) ∧ _)
      refine ⟨fun z => (by cases z), fun k' hk' => ?_⟩
      have hk' : some k = some k' := hk'
      cases hk'
      refine ⟨u1, ?_, u3, fun p p1 p2 hbk => ?_⟩
      · rcases u2 with z | ⟨p, p1, p2, p3⟩
        · exact Or.inl z
        · exact Or.inr ⟨p, p1, by omega, p3⟩
      · by_cases z : p = q
        · subst z
          rcases u2 with w | ⟨p', w1, w2, w3⟩
          · have := (g9 k (by omega)).1 w
            exact Or.inl (by omega)
          · refine Or.inr ⟨?_, ?_⟩
            · rw [w3]
              have := g13 p' w1 (by omega)
              rw [hlk]
              exact (g9 (tn p') (by omega)).2.1 this.1 this.2
            · rw [w3]
              exact g15 p' p w1 (by omega) hq2
        · exact u4 p p1 (by omega) hbk
    | none =>
      obtain ⟨u1, u2⟩ := g16.1 hb
      rw [← esq]
      unfold brS
      simp only
      by_cases hbk : bk (st'.2.1 (tn q)) = true
      · rw [if_pos hbk]
        refine ⟨fun z => (by cases z), fun k' hk' => ?_⟩
        have hk' : some (tn q) = some k' := hk'
        cases hk'
        refine ⟨hbk, Or.inr ⟨q, hq1, by omega, rfl⟩, fun b hb2 hbb => ?_, fun p p1 p2 hbp => ?_⟩
        · rw [u1 b hb2] at hbb; cases hbb
        · by_cases z : p = q
          · subst z; exact Or.inr ⟨rfl, Nat.le_refl _⟩
          · rw [u2 p p1 (by omega)] at hbp; cases hbp
      · rw [if_neg hbk]
        refine ⟨fun _ => ⟨u1, fun p p1 p2 => ?_⟩, fun k' hk' => (by cases hk')⟩
        by_cases z : p = q
        · subst z
          cases hz : bk (st'.2.1 (tn p)) with
          | false => rfl
          | true => exact absurd hz hbk
        · exact u2 p p1 (by omega)
/-- a level is through, the next one is in order -/
theorem mG_level {rk' tn' : Nat → Nat} (h : mG S bk a c0 c0 l rk lv tn br st) (hlt : a < c0) (ht : st.2.2.2 = false) (hr : ∀ i, i < c0 → rk' i = rk i) (hT : tP (fun x => rk (st.2.2.1 x) * 64 + dg (st.2.1 x) 22 9) c0 st.1 tn') (hP : ∀ r, c0 + r < st.1 → rk' (tn' (c0 + r)) = rkP (fun x => rk (st.2.2.1 x) * 64 + dg (st.2.1 x) 22 9) tn' c0 r) : mG S bk c0 st.1 c0 (l + 1) rk' lv tn' br st := by
  obtain ⟨⟨g1, g2, g3, g4, g5, g6⟩, g7, g8, g9, g10, g11, ⟨g12, g12b⟩, ⟨g13, g14, g15⟩, g16, g17⟩ := h
  obtain ⟨f1, f2⟩ := g10 ht
  have lvl : ∀ x, x < c0 → lv x ≤ l := fun x hx => by
    rcases Nat.lt_or_ge x a with z | z
    · have := (g9 x (by omega)).1 z
      omega
    · have := (g9 x (by omega)).2.1 z hx
      omega
  have pos : ∀ x, c0 ≤ x → x < st.1 → ∃ r, c0 + r < st.1 ∧ tn' (c0 + r) = x := fun x h1 h2 => by
    obtain ⟨p, p1, p2, p3⟩ := hT.2.2.1 x h1 h2
    exact ⟨p - c0, by omega, by rw [show c0 + (p - c0) = p by omega]; exact p3⟩
  have cmp : ∀ r s, c0 + r < st.1 → c0 + s < st.1 → (rk' (tn' (c0 + r)) < rk' (tn' (c0 + s)) ↔ rk (st.2.2.1 (tn' (c0 + r))) * 64 + dg (st.2.1 (tn' (c0 + r))) 22 9 < rk (st.2.2.1 (tn' (c0 + s))) * 64 + dg (st.2.1 (tn' (c0 + s))) 22 9) ∧ (r ≤ s → rk' (tn' (c0 + r)) ≤ rk' (tn' (c0 + s))) := fun r s hr' hs' => by
    rw [hP r hr', hP s hs']
    rcases Nat.le_total r s with z | z
    · have := rkP_cmp hT (s - r) r (by omega)
      rw [show r + (s - r) = s by omega] at this
      omega
    · have := rkP_cmp hT (r - s) s (by omega)
      rw [show s + (r - s) = r by omega] at this
      refine ⟨by omega, fun q => ?_⟩
      have e : r = s := by omega
      subst e
      exact Nat.le_refl _
  refine ⟨⟨by omega, g3, Nat.le_refl _, g4, g5, g6⟩, g7, g8, fun x hx => ⟨fun z => by have := lvl x z; omega, fun z1 z2 => (g9 x hx).2.2 z1, fun z => absurd hx (by omega)⟩, fun _ => ⟨fun x hx y hy => ?_, fun q' h1 h2 => absurd h2 (by omega)⟩, fun x hx0 hx => ?_, ⟨fun x y hx0 hx hy0 hy hl => ?_, fun x hx => ?_⟩, ⟨hT.1, hT.2.2.1, fun p p' h1 h2 h3 => ?_⟩, ⟨fun hb => ⟨fun x hx => ?_, fun p h1 h2 => absurd h2 (by omega)⟩, fun k hb => ?_⟩, g17⟩
  · rcases Nat.lt_or_ge x a with z | z
    · exact f1 x z y hy
    · obtain ⟨p, p1, p2, p3⟩ := g14 x z hx
      exact f2 p p1 p2 y (by rw [p3]; exact hy)
  · obtain ⟨u1, u2, u3, u4⟩ := g11 x hx0 hx
    refine ⟨by omega, u2, u3, fun b hb hl hxb => ?_⟩
    have hb0 : b < c0 := by
      rcases Nat.lt_or_ge b c0 with z | z
      · exact z
      · have z1 := (g9 b hb).2.2 z
        have z2 := lvl _ u1
        omega
    rw [hr _ u1, hr b hb0]
    exact u4 b hb0 hl hxb
  · have kx := (g11 x hx0 hx).1
    have ky := (g11 y hy0 hy).1
    show rk' x < rk' y ↔ rk' (st.2.2.1 x) * 64 + dg (st.2.1 x) 22 9 < rk' (st.2.2.1 y) * 64 + dg (st.2.1 y) 22 9
    rw [hr _ kx, hr _ ky]
    rcases Nat.lt_or_ge x c0 with z | z
    · rcases Nat.lt_or_ge y c0 with z2 | z2
      · rw [hr x z, hr y z2]
        exact g12 x y hx0 z hy0 z2 hl
      · have := lvl x z
        have := (g9 y hy).2.2 z2
        omega
    · rcases Nat.lt_or_ge y c0 with z2 | z2
      · have := lvl y z2
        have := (g9 x hx).2.2 z
        omega
      · obtain ⟨r, r1, r2⟩ := pos x z hx
        obtain ⟨s, s1, s2⟩ := pos y z2 hy
        have := (cmp r s r1 s1).1
        rw [r2, s2] at this
        exact this
  · rcases Nat.lt_or_ge x c0 with z | z
    · rw [hr x z]; exact g12b x z
    · obtain ⟨r, r1, r2⟩ := pos x z hx
      have := hP r r1
      rw [r2] at this
      rw [this]
      have := rkP_le (key := fun x => rk (st.2.2.1 x) * 64 + dg (st.2.1 x) 22 9) (t := tn') (a := c0) r
      omega
  · have := (cmp (p - c0) (p' - c0) (by omega) (by omega)).2 (by omega)
    rw [show c0 + (p - c0) = p by omega, show c0 + (p' - c0) = p' by omega] at this
    exact this
  · rcases Nat.lt_or_ge x a with z | z
    · exact (g16.1 hb).1 x z
    · obtain ⟨p, p1, p2, p3⟩ := g14 x z hx
      rw [← p3]
      exact (g16.1 hb).2 p p1 p2
  · obtain ⟨u1, u2, u3, u4⟩ := g16.2 k hb
    have hk : k < c0 := by
      rcases u2 with z | ⟨p, p1, p2, p3⟩
      · omega
      · have := g13 p p1 (by omega)
        omega
    refine ⟨u1, Or.inl hk, fun b hb2 hbk => ?_, fun p h1 h2 => absurd h2 (by omega)⟩
    rw [hr k hk, hr b hb2]
    rcases Nat.lt_or_ge b a with z | z
    · exact u3 b z hbk
    · obtain ⟨p, p1, p2, p3⟩ := g14 b z hb2
      rw [← p3] at hbk ⊢
      exact u4 p p1 p2 hbk
/-- at the end -/
theorem mG_end (h : mG S bk a c0 a l rk lv tn br st) (hac : a = st.1) (ht : st.2.2.2 = false) : gM S bk (fun x => dg x 22 9) st.1 st.2.1 st.2.2.1 rk lv br := by
  obtain ⟨⟨g1, g2, g3, g4, g5, g6⟩, g7, g8, g9, g10, g11, ⟨g12, g12b⟩, ⟨g13, g14, g15⟩, g16, g17⟩ := h
  have hc : c0 = st.1 := by omega
  subst hc
  obtain ⟨f1, f2⟩ := g10 ht
  refine ⟨⟨g1, g5, g6⟩, g7, g8, fun x hx => f1 x (by omega), fun x hx0 hx => g11 x hx0 hx, fun x y hx0 hx hy0 hy hl => g12 x y hx0 hx hy0 hy hl, fun hb x hx => (g16.1 hb).1 x (by omega), fun k hb => ?_⟩
  obtain ⟨u1, u2, u3, u4⟩ := g16.2 k hb
  have hk : k < st.1 := by
    rcases u2 with z | ⟨p, p1, p2, p3⟩
    · omega
    · omega
  exact ⟨hk, u1, fun b hb2 hbk => u3 b (by omega) hbk⟩
theorem bW_lv {c k : Nat} {sh cf rk lv : Nat → Nat} {pl : Nat → Nat} (h : gM S bk pl c sh cf rk lv (some k)) : ∀ j, j ≤ lv k → bW cf k j < c ∧ lv (bW cf k j) = lv k - j
  | 0, _ => ⟨(h.2.2.2.2.2.2.2 k rfl).1, rfl⟩
  | j + 1, hj => by
    obtain ⟨i1, i2⟩ := bW_lv h j (by omega)
    have hpos : 0 < bW cf k j := by
      rcases Nat.eq_zero_or_pos (bW cf k j) with z | z
      · rw [z, h.1.2.2] at i2; omega
      · exact z
    obtain ⟨u1, u2, -⟩ := h.2.2.2.2.1 _ hpos i1
    exact ⟨u1, by show lv (cf (bW cf k j)) = _; omega⟩
theorem bW_0 {c k : Nat} {sh cf rk lv : Nat → Nat} {pl : Nat → Nat} (h : gM S bk pl c sh cf rk lv (some k)) : bW cf k (lv k) = 0 := by
  obtain ⟨i1, i2⟩ := bW_lv h (lv k) (Nat.le_refl _)
  have h1 := (h.2.2.1 _ i1).1
  rw [i2, Nat.sub_self] at h1
  have h1 : sh (bW cf k (lv k)) = 0 := h1
  exact h.2.1 _ i1 0 (by have := h.1.1; omega) (by rw [h1, h.1.2.1])
theorem bW_n {c k : Nat} {sh cf rk lv : Nat → Nat} {pl : Nat → Nat} (h : gM S bk pl c sh cf rk lv (some k)) : lv k + 1 ≤ c := by
  refine g_card (sh := bW cf k) (fo := fun x => x) (fun i hi j hj e => ?_) (fun i hi => ⟨bW cf k i, (bW_lv h i (by omega)).1, rfl⟩)
  have e1 := (bW_lv h i (by omega)).2
  have e2 := (bW_lv h j (by omega)).2
  rw [e] at e1
  omega
end MGG
