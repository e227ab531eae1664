/-! the Model's grouping and numbering, over numbers alone -/
/-- what the first alike one among t, .. has -/
def gm1 (al : Nat → Nat → Bool) (fi : Nat → Nat) (s : Nat) : Nat → Nat → Option Nat
  | 0, _ => none
  | m + 1, t => if al s t then some (fi t) else gm1 al fi s m (t + 1)
def mfL (al : Nat → Nat → Bool) : Nat → Nat → Nat → (Nat → Nat) → Nat × (Nat → Nat)
  | 0, _, n, fi => (n, fi)
  | m + 1, i, n, fi => match gm1 al fi i i 0 with
    | some k => mfL al m (i + 1) n (va_up fi i k)
    | none => mfL al m (i + 1) (n + 1) (va_up fi i n)
def mlL (nx : Nat → Nat → Option Nat) (c : Nat) : Nat → Nat → (Nat → Nat) → Option (Nat × (Nat → Nat))
  | 0, _, _ => none
  | m + 1, gr, g => if (mfL (d_al nx g) c 0 0 (fun _ => 0)).1 = gr then some (mfL (d_al nx g) c 0 0 (fun _ => 0)) else mlL nx c m (mfL (d_al nx g) c 0 0 (fun _ => 0)).1 (mfL (d_al nx g) c 0 0 (fun _ => 0)).2
theorem va_up_s {α : Type} {f : Nat → α} {k : Nat} {v : α} : va_up f k v k = v := if_pos rfl
theorem va_up_n {α : Type} {f : Nat → α} {k j : Nat} {v : α} (h : ¬ j = k) : va_up f k v j = f j := if_neg h
theorem gm1_some {al : Nat → Nat → Bool} {fi : Nat → Nat} {s k : Nat} : ∀ m t, gm1 al fi s m t = some k → ∃ j, t ≤ j ∧ j < t + m ∧ al s j = true ∧ fi j = k
  | 0, t, h => by cases h
  | m + 1, t, h => by
    unfold gm1 at h
    by_cases ht : al s t = true
    · rw [if_pos ht] at h
      cases h
      exact ⟨t, Nat.le_refl _, by omega, ht, rfl⟩
    · rw [if_neg ht] at h
      obtain ⟨j, h1, h2, h3⟩ := gm1_some m (t + 1) h
      exact ⟨j, by omega, by omega, h3⟩
theorem gm1_none {al : Nat → Nat → Bool} {fi : Nat → Nat} {s : Nat} : ∀ m t, gm1 al fi s m t = none → ∀ j, t ≤ j → j < t + m → al s j = false
  | 0, t, _, j, h1, h2 => by omega
  | m + 1, t, h, j, h1, h2 => by
    unfold gm1 at h
    by_cases ht : al s t = true
    · rw [if_pos ht] at h; cases h
    · rw [if_neg ht] at h
      rcases Nat.lt_or_ge t j with h3 | h3
      · exact gm1_none m (t + 1) h j (by omega) (by omega)
      · have : j = t := by omega
        subst this
        simpa using ht
theorem fmL_lt {P : Nat → Bool} : ∀ m i, fmL P m i < i + m → P (fmL P m i) = true
  | 0, i, h => by unfold fmL at h; omega
  | m + 1, i, h => by
    unfold fmL at h ⊢
    by_cases hp : P i = true
    · rw [if_pos hp]; exact hp
    · rw [if_neg hp] at h ⊢
      exact fmL_lt m (i + 1) (by omega)
theorem fmL_no {P : Nat → Bool} : ∀ m i, fmL P m i = i + m → ∀ j, i ≤ j → j < i + m → P j = false
  | 0, i, _, j, h1, h2 => by omega
  | m + 1, i, h, j, h1, h2 => by
    unfold fmL at h
    by_cases hp : P i = true
    · rw [if_pos hp] at h; omega
    · rw [if_neg hp] at h
      rcases Nat.lt_or_ge i j with h3 | h3
      · exact fmL_no m (i + 1) (by omega) j (by omega) (by omega)
      · have : j = i := by omega
        subst this
        simpa using hp
/-- a relation of likeness -/
def EQV (al : Nat → Nat → Bool) : Prop := (∀ a, al a a = true) ∧ (∀ a b, al a b = true → al b a = true) ∧ ∀ a b c, al a b = true → al b c = true → al a c = true
theorem d_al_eqv (nx : Nat → Nat → Option Nat) (g : Nat → Nat) : EQV (d_al nx g) := by
  refine ⟨fun a => d_al_iff.mpr ⟨rfl, fun _ _ => rfl⟩, fun a b h => ?_, fun a b c h1 h2 => ?_⟩
  · have h := d_al_iff.mp h
    exact d_al_iff.mpr ⟨h.1.symm, fun e he => (h.2 e he).symm⟩
  · have h1 := d_al_iff.mp h1
    have h2 := d_al_iff.mp h2
    exact d_al_iff.mpr ⟨h1.1.trans h2.1, fun e he => (h1.2 e he).trans (h2.2 e he)⟩
/-- what holds of a grouping of the first i nodes: heads hd -/
def GI (al : Nat → Nat → Bool) (i n : Nat) (hd fi : Nat → Nat) : Prop := n ≤ i ∧ (∀ k, k < n → hd k < i ∧ fi (hd k) = k) ∧ ∀ s, s < i → fi s < n ∧ al (hd (fi s)) s = true
/-- one step of both -/
theorem mf_rf {al : Nat → Nat → Bool} (E : EQV al) : ∀ (m i n : Nat) (hd fi : Nat → Nat), GI al i n hd fi → (∀ a b, a < n → b < n → al (hd a) (hd b) = true → a = b) →
    ((∃ hd', rfL al m i n hd fi = some ((mfL al m i n fi).1, hd', (mfL al m i n fi).2)) ∨ (rfL al m i n hd fi = none ∧ 24 < (mfL al m i n fi).1)) ∧ n ≤ (mfL al m i n fi).1 ∧ ∃ hd', GI al (i + m) (mfL al m i n fi).1 hd' (mfL al m i n fi).2 ∧ ∀ a b, a < (mfL al m i n fi).1 → b < (mfL al m i n fi).1 → al (hd' a) (hd' b) = true → a = b
  | 0, i, n, hd, fi, h, hne => ⟨Or.inl ⟨hd, rfl⟩, Nat.le_refl _, hd, h, hne⟩
  | m + 1, i, n, hd, fi, h, hne => by
    obtain ⟨hni, hh, hs⟩ := h
    have hle := fmL_le (fun k => al (hd k) i) n 0
    unfold rfL mfL
    cases hg : gm1 al fi i i 0 with
    | some k =>
      obtain ⟨j, hj1, hj2, hj3, hj4⟩ := gm1_some _ _ hg
      have hji := hs j (by omega)
      have hki : al (hd k) i = true := by
        rw [← hj4]
        exact E.2.2 _ _ _ hji.2 (E.2.1 _ _ hj3)
      have hkn : k < n := by omega
      have hlt : fmL (fun k => al (hd k) i) n 0 < 0 + n := by
        rcases Nat.lt_or_ge (fmL (fun k => al (hd k) i) n 0) (0 + n) with q | q
        · exact q
        · have h9 : al (hd k) i = false := fmL_no (P := fun k => al (hd k) i) n 0 (by omega) k (by omega) (by omega)
          rw [hki] at h9; cases h9
      have hf := fmL_lt n 0 hlt
      have hfk : fmL (fun k => al (hd k) i) n 0 = k := hne _ _ (by omega) hkn (E.2.2 _ _ _ hf (E.2.1 _ _ hki))
      rw [if_neg (by omega), hfk]
      simp only
      have hG : GI al (i + 1) n hd (va_up fi i k) := by
        refine ⟨by omega, fun a ha => ?_, fun s hs' => ?_⟩
        · obtain ⟨q1, q2⟩ := hh a ha
          exact ⟨by omega, by rw [va_up_n (by omega)]; exact q2⟩
        · by_cases hsi : s = i
          · subst hsi
            rw [va_up_s]
            exact ⟨hkn, hki⟩
          · rw [va_up_n hsi]
            exact hs s (by omega)
      have ih := mf_rf E m (i + 1) n hd (va_up fi i k) hG hne
      rw [show i + (m + 1) = i + 1 + m by omega]
      exact ih
    | none =>
      have hno := gm1_none _ _ hg
      have hall : ∀ k, k < n → al (hd k) i = false := fun k hk => by
        cases hq : al (hd k) i with
        | false => rfl
        | true =>
          have h1 := hno (hd k) (by omega) (by have := (hh k hk).1; omega)
          rw [E.2.1 _ _ hq] at h1; cases h1
      have hfn : fmL (fun k => al (hd k) i) n 0 = n := by
        rcases Nat.lt_or_ge (fmL (fun k => al (hd k) i) n 0) (0 + n) with q | q
        · have h1 : al (hd (fmL (fun k => al (hd k) i) n 0)) i = true := fmL_lt (P := fun k => al (hd k) i) n 0 q
          have h2 := hall _ (show fmL (fun k => al (hd k) i) n 0 < n by omega)
          rw [h2] at h1; cases h1
        · omega
      rw [if_pos hfn]
      simp only
      have hG : GI al (i + 1) (n + 1) (va_up hd n i) (va_up fi i n) := by
        refine ⟨by omega, fun a ha => ?_, fun s hs' => ?_⟩
        · by_cases han : a = n
          · subst han
            rw [va_up_s, va_up_s]
            exact ⟨by omega, rfl⟩
          · obtain ⟨q1, q2⟩ := hh a (by omega)
            rw [va_up_n han, va_up_n (by omega)]
            exact ⟨by omega, q2⟩
        · by_cases hsi : s = i
          · subst hsi
            rw [va_up_s, va_up_s]
            exact ⟨by omega, E.1 _⟩
          · obtain ⟨q1, q2⟩ := hs s (by omega)
            rw [va_up_n hsi, va_up_n (by omega)]
            exact ⟨by omega, q2⟩
      have hne' : ∀ a b, a < n + 1 → b < n + 1 → al (va_up hd n i a) (va_up hd n i b) = true → a = b := fun a b ha hb hab => by
        by_cases han : a = n <;> by_cases hbn : b = n
        · omega
        · subst han
          rw [va_up_s, va_up_n hbn] at hab
          have := hall b (by omega)
          rw [E.2.1 _ _ hab] at this; cases this
        · subst hbn
          rw [va_up_s, va_up_n han] at hab
          have := hall a (by omega)
          rw [hab] at this; cases this
        · rw [va_up_n han, va_up_n hbn] at hab
          exact hne a b (by omega) (by omega) hab
      have ih := mf_rf E m (i + 1) (n + 1) (va_up hd n i) (va_up fi i n) hG hne'
      rw [show i + (m + 1) = i + 1 + m by omega]
      refine ⟨?_, by omega, ih.2.2⟩
      by_cases h24 : n < 24
      · rw [if_pos h24]; exact ih.1
      · rw [if_neg h24]
        exact Or.inr ⟨rfl, by have := ih.2.1; omega⟩
/-- a grouping by likeness: numbers below n, all of them taken -/
def GP (al : Nat → Nat → Bool) (c n : Nat) (fi : Nat → Nat) : Prop := n ≤ c ∧ (∀ s, s < c → fi s < n) ∧ (∀ k, k < n → ∃ s, s < c ∧ fi s = k) ∧ ∀ a b, a < c → b < c → (fi a = fi b ↔ al a b = true)
theorem GP_of {al : Nat → Nat → Bool} (E : EQV al) {c n : Nat} {hd fi : Nat → Nat} (h : GI al c n hd fi) (hne : ∀ a b, a < n → b < n → al (hd a) (hd b) = true → a = b) : GP al c n fi := by
  obtain ⟨hni, hh, hs⟩ := h
  refine ⟨hni, fun s h => (hs s h).1, fun k hk => ⟨hd k, hh k hk⟩, fun a b ha hb => ⟨fun q => ?_, fun q => ?_⟩⟩
  · have h1 := (hs a ha).2
    have h2 := (hs b hb).2
    rw [← q] at h2
    exact E.2.2 _ _ _ (E.2.1 _ _ h1) h2
  · have h1 := hs a ha
    have h2 := hs b hb
    exact hne _ _ h1.1 h2.1 (E.2.2 _ _ _ (E.2.2 _ _ _ h1.2 q) (E.2.1 _ _ h2.2))
theorem mf_GP {al : Nat → Nat → Bool} (E : EQV al) (c : Nat) : GP al c (mfL al c 0 0 (fun _ => 0)).1 (mfL al c 0 0 (fun _ => 0)).2 := by
  have h := mf_rf E c 0 0 (fun _ => 0) (fun _ => 0) ⟨Nat.le_refl _, fun k hk => absurd hk (by omega), fun s hs => absurd hs (by omega)⟩ (fun a b ha => absurd ha (by omega))
  obtain ⟨-, -, hd', hG, hne⟩ := h
  rw [Nat.zero_add] at hG
  exact GP_of E hG hne
theorem mf_rf0 {al : Nat → Nat → Bool} (E : EQV al) (c : Nat) : (∃ hd', rfL al c 0 0 (fun _ => 0) (fun _ => 0) = some ((mfL al c 0 0 (fun _ => 0)).1, hd', (mfL al c 0 0 (fun _ => 0)).2)) ∨ (rfL al c 0 0 (fun _ => 0) (fun _ => 0) = none ∧ 24 < (mfL al c 0 0 (fun _ => 0)).1) :=
  (mf_rf E c 0 0 (fun _ => 0) (fun _ => 0) ⟨Nat.le_refl _, fun k hk => absurd hk (by omega), fun s hs => absurd hs (by omega)⟩ (fun a b ha => absurd ha (by omega))).1
/-- a finer grouping has no fewer groups; as many: it is the same -/
theorem finer_le {c n n' : Nat} {g g' : Nat → Nat} (h1 : ∀ k, k < n → ∃ s, s < c ∧ g s = k) (h3 : ∀ s, s < c → g' s < n') (h4 : ∀ a b, a < c → b < c → g' a = g' b → g a = g b) : n ≤ n' ∧ (n = n' → ∀ a b, a < c → b < c → g a = g b → g' a = g' b) := by
  have h1' : ∀ k, ∃ s, k < n → s < c ∧ g s = k := fun k => by
    by_cases hk : k < n
    · obtain ⟨s, hs⟩ := h1 k hk; exact ⟨s, fun _ => hs⟩
    · exact ⟨0, fun q => absurd q hk⟩
  have hrep : ∃ rep : Nat → Nat, ∀ k, k < n → rep k < c ∧ g (rep k) = k := ⟨fun k => Classical.choose (h1' k), fun k => Classical.choose_spec (h1' k)⟩
  obtain ⟨rep, hr⟩ := hrep
  have inj : ∀ i j, i < n → j < n → g' (rep i) = g' (rep j) → i = j := fun i j hi hj q => by
    have := h4 _ _ (hr i hi).1 (hr j hj).1 q
    rw [(hr i hi).2, (hr j hj).2] at this
    exact this
  refine ⟨pigeon n' n (fun k => g' (rep k)) (fun i hi => h3 _ (hr i hi).1) inj, fun hn a b ha hb hab => ?_⟩
  subst hn
  -- else one of the two has a number that no rep has
  have no : ∀ x, x < c → g' x = g' (rep (g x)) := fun x hx => by
    by_cases q : g' x = g' (rep (g x))
    · exact q
    · exfalso
      have := pigeon n (n + 1) (fun k => if k < n then g' (rep k) else g' x) (fun i hi => by
        by_cases hin : i < n
        · simp only [hin, if_true]; exact h3 _ (hr i hin).1
        · simp only [hin, if_false]; exact h3 _ hx) (fun i j hi hj hij => by
        by_cases hin : i < n <;> by_cases hjn : j < n <;> simp only [hin, hjn, if_true, if_false] at hij
        · exact inj i j hin hjn hij
        · exfalso
          have h5 := h4 _ _ (hr i hin).1 hx hij
          rw [(hr i hin).2] at h5
          exact q (by rw [← h5, hij])
        · exfalso
          have h5 := h4 _ _ hx (hr j hjn).1 hij
          rw [(hr j hjn).2] at h5
          exact q (by rw [h5, hij])
        · omega)
      omega
  rw [no a ha, no b hb, hab]
/-- a grouping is stable: like successors -/
def STB (nx : Nat → Nat → Option Nat) (c : Nat) (g : Nat → Nat) : Prop := ∀ a b, a < c → b < c → g a = g b → ∀ e, e < 24 → (nx a e).map g = (nx b e).map g
def NXB (nx : Nat → Nat → Option Nat) (c : Nat) : Prop := ∀ i, i < c → ∀ e, e < 24 → ∀ j, nx i e = some j → j < c
theorem rf_le (al : Nat → Nat → Bool) : ∀ (m i n : Nat) (hd fi : Nat → Nat) {r : Nat × (Nat → Nat) × (Nat → Nat)}, rfL al m i n hd fi = some r → n ≤ 24 → r.1 ≤ 24
  | 0, i, n, hd, fi, r, h, hn => by
    unfold rfL at h; cases h; exact hn
  | m + 1, i, n, hd, fi, r, h, hn => by
    unfold rfL at h
    by_cases h1 : fmL (fun k => al (hd k) i) n 0 = n
    · rw [if_pos h1] at h
      by_cases h2 : n < 24
      · rw [if_pos h2] at h
        exact rf_le al m (i + 1) (n + 1) _ _ h (by omega)
      · rw [if_neg h2] at h; cases h
    · rw [if_neg h1] at h
      exact rf_le al m (i + 1) n _ _ h hn
/-- the Model's rounds end; the class's end with them, or there are more than 24 groups -/
theorem ml_ls {nx : Nat → Nat → Option Nat} {c : Nat} (hB : NXB nx c) (hc : 1 ≤ c) : ∀ (K gr : Nat) (g : Nat → Nat), c + 1 ≤ gr + K → (gr = 0 ∨ ((∀ s, s < c → g s < gr) ∧ ∀ k, k < gr → ∃ s, s < c ∧ g s = k)) →
    ∃ N FI, mlL nx c K gr g = some (N, FI) ∧ N ≤ c ∧ gr ≤ N ∧ (∀ s, s < c → FI s < N) ∧ (∀ k, k < N → ∃ s, s < c ∧ FI s = k) ∧ STB nx c FI ∧ (∀ a b, a < c → b < c → FI a = FI b → g a = g b) ∧ ∀ m, 25 ≤ m + gr → (N ≤ 24 → lsL nx c m gr g = some (N, FI)) ∧ (24 < N → lsL nx c m gr g = none)
  | 0, gr, g, hK, hg => by
    exfalso
    rcases hg with hg | ⟨hg1, hg2⟩
    · omega
    · have hx : ∀ k, ∃ s, k < gr → s < c ∧ g s = k := fun k => by
        by_cases hk : k < gr
        · obtain ⟨s, hs⟩ := hg2 k hk; exact ⟨s, fun _ => hs⟩
        · exact ⟨0, fun q => absurd q hk⟩
      have := pigeon c gr (fun k => Classical.choose (hx k)) (fun i hi => (Classical.choose_spec (hx i) hi).1) (fun i j hi hj q => by
        have a := (Classical.choose_spec (hx i) hi).2
        have b := (Classical.choose_spec (hx j) hj).2
        rw [← a, ← b, q])
      omega
  | K + 1, gr, g, hK, hg => by
    have E := d_al_eqv nx g
    obtain ⟨P1, P2, P3, P4⟩ := mf_GP E c
    have R := mf_rf0 E c
    unfold mlL
    generalize hM : mfL (d_al nx g) c 0 0 (fun _ => 0) = M at P1 P2 P3 P4 R ⊢
    obtain ⟨n, fi⟩ := M
    simp only at P1 P2 P3 P4 R ⊢
    have hn1 : 1 ≤ n := by have := P2 0 hc; omega
    have hfin : ∀ a b, a < c → b < c → fi a = fi b → g a = g b := fun a b ha hb q => (d_al_iff.mp ((P4 a b ha hb).mp q)).1
    have hle : gr ≤ n ∧ (gr = n → ∀ a b, a < c → b < c → g a = g b → fi a = fi b) := by
      rcases hg with hg | ⟨hg1, hg2⟩
      · exact ⟨by omega, fun q => by omega⟩
      · exact finer_le hg2 P2 hfin
    by_cases hE : n = gr
    · rw [if_pos hE]
      refine ⟨n, fi, rfl, P1, by omega, P2, P3, fun a b ha hb q e he => ?_, hfin, fun m hm => ?_⟩
      · have h1 := (d_al_iff.mp ((P4 a b ha hb).mp q)).2 e he
        have hs := hle.2 hE.symm
        cases ha' : nx a e with
        | none =>
          rw [ha'] at h1
          cases hb' : nx b e with
          | none => rfl
          | some y => rw [hb'] at h1; cases h1
        | some x =>
          rw [ha'] at h1
          cases hb' : nx b e with
          | none => rw [hb'] at h1; cases h1
          | some y =>
            rw [hb'] at h1
            simp only [Option.map_some, Option.some.injEq] at h1 ⊢
            exact hs x y (hB a ha e he x ha') (hB b hb e he y hb') h1
      · match m, hm with
        | 0, hm =>
          refine ⟨fun q => by omega, fun q => rfl⟩
        | m + 1, hm =>
          unfold lsL
          rcases R with ⟨hd', R⟩ | ⟨R, q⟩
          · rw [R]
            simp only
            rw [if_pos hE, hE]
            refine ⟨fun _ => rfl, fun q => ?_⟩
            exfalso
            have := rf_le (d_al nx g) c 0 0 (fun _ => 0) (fun _ => 0) R (by omega)
            omega
          · rw [R]
            exact ⟨fun q' => by omega, fun _ => rfl⟩
    · rw [if_neg hE]
      obtain ⟨N, FI, i1, i2, i3, i4, i5, i6, i7, i8⟩ := ml_ls hB hc K n fi (by omega) (Or.inr ⟨P2, P3⟩)
      refine ⟨N, FI, i1, i2, by omega, i4, i5, i6, fun a b ha hb q => hfin a b ha hb (i7 a b ha hb q), fun m hm => ?_⟩
      match m, hm with
      | 0, hm => exact ⟨fun q => by omega, fun q => rfl⟩
      | m + 1, hm =>
        unfold lsL
        rcases R with ⟨hd', R⟩ | ⟨R, q⟩
        · rw [R]
          simp only
          rw [if_neg hE]
          exact i8 m (by omega)
        · rw [R]
          exact ⟨fun q' => by omega, fun _ => rfl⟩
/-- the successors of a node get numbers -/
def mmE (nx : Nat → Nat → Option Nat) (g : Nat → Nat) (node : Nat) : Nat → Nat → Nat → (Nat → Option Nat) → (Nat → Nat) → Nat × (Nat → Option Nat) × (Nat → Nat)
  | 0, _, kn, nb, hd => (kn, nb, hd)
  | m + 1, e, kn, nb, hd => match nx node e with
    | none => mmE nx g node m (e + 1) kn nb hd
    | some t => if nb (g t) = none then mmE nx g node m (e + 1) (kn + 1) (va_up nb (g t) (some kn)) (va_up hd kn t) else mmE nx g node m (e + 1) kn nb hd
def mmS (nx : Nat → Nat → Option Nat) (g : Nat → Nat) : Nat → Nat → Nat → (Nat → Option Nat) → (Nat → Nat) → Option (Nat × (Nat → Option Nat) × (Nat → Nat))
  | 0, _, _, _, _ => none
  | m + 1, u, kn, nb, hd => if u < kn then mmS nx g m (u + 1) (mmE nx g (hd u) 24 0 kn nb hd).1 (mmE nx g (hd u) 24 0 kn nb hd).2.1 (mmE nx g (hd u) 24 0 kn nb hd).2.2 else some (kn, nb, hd)
/-- the numbers and the heads tell of each other -/
def BI (c : Nat) (g : Nat → Nat) (kn : Nat) (nb : Nat → Option Nat) (hd : Nat → Nat) : Prop := (∀ k j, nb k = some j → j < kn ∧ g (hd j) = k) ∧ ∀ j, j < kn → nb (g (hd j)) = some j ∧ hd j < c
theorem BI_inj {c kn : Nat} {g hd : Nat → Nat} {nb : Nat → Option Nat} (h : BI c g kn nb hd) {i j : Nat} (hi : i < kn) (hj : j < kn) (q : g (hd i) = g (hd j)) : i = j := by
  have h1 := (h.2 i hi).1
  have h2 := (h.2 j hj).1
  rw [q, h2] at h1
  cases h1; rfl
theorem BI_c {c kn : Nat} {g hd : Nat → Nat} {nb : Nat → Option Nat} (h : BI c g kn nb hd) : kn ≤ c := pigeon c kn hd (fun i hi => (h.2 i hi).2) (fun _ _ hi hj q => BI_inj h hi hj (by rw [q]))
theorem BI_gr {c kn gr : Nat} {g hd : Nat → Nat} {nb : Nat → Option Nat} (h : BI c g kn nb hd) (hg : ∀ i, i < c → g i < gr) : kn ≤ gr := pigeon gr kn (fun i => g (hd i)) (fun i hi => hg _ (h.2 i hi).2) (fun _ _ hi hj q => BI_inj h hi hj q)
theorem BI_add {c kn : Nat} {g hd : Nat → Nat} {nb : Nat → Option Nat} (h : BI c g kn nb hd) {t : Nat} (ht : t < c) (hn : nb (g t) = none) : BI c g (kn + 1) (va_up nb (g t) (some kn)) (va_up hd kn t) := by
  refine ⟨fun k j q => ?_, fun j hj => ?_⟩
  · by_cases hk : k = g t
    · subst hk
      rw [va_up_s] at q
      cases q
      exact ⟨by omega, by rw [va_up_s]⟩
    · rw [va_up_n hk] at q
      have h1 := h.1 k j q
      exact ⟨by omega, by rw [va_up_n (by omega)]; exact h1.2⟩
  · by_cases hjk : j = kn
    · subst hjk
      rw [va_up_s, va_up_s]
      exact ⟨rfl, ht⟩
    · rw [va_up_n hjk]
      have h1 := h.2 j (by omega)
      refine ⟨?_, h1.2⟩
      rw [va_up_n]
      · exact h1.1
      · intro q
        rw [q, hn] at h1
        cases h1.1
theorem BI_gr1 {c kn gr : Nat} {g hd : Nat → Nat} {nb : Nat → Option Nat} (h : BI c g kn nb hd) (hg : ∀ i, i < c → g i < gr) {t : Nat} (ht : t < c) (hn : nb (g t) = none) : kn + 1 ≤ gr := BI_gr (BI_add h ht hn) hg
/-- what a later state of the numbering keeps -/
def KP (kn : Nat) (nb : Nat → Option Nat) (hd : Nat → Nat) (kn' : Nat) (nb' : Nat → Option Nat) (hd' : Nat → Nat) : Prop := kn ≤ kn' ∧ (∀ j, j < kn → hd' j = hd j) ∧ ∀ k j, nb k = some j → nb' k = some j
theorem KP_tr {a b c : Nat} {na nb nc : Nat → Option Nat} {ha hb hc : Nat → Nat} (h1 : KP a na ha b nb hb) (h2 : KP b nb hb c nc hc) : KP a na ha c nc hc := ⟨Nat.le_trans h1.1 h2.1, fun j hj => (h2.2.1 j (Nat.lt_of_lt_of_le hj h1.1)).trans (h1.2.1 j hj), fun k j q => h2.2.2 k j (h1.2.2 k j q)⟩
theorem KP_add {kn : Nat} {g hd : Nat → Nat} {nb : Nat → Option Nat} {t : Nat} (hn : nb (g t) = none) : KP kn nb hd (kn + 1) (va_up nb (g t) (some kn)) (va_up hd kn t) := by
  refine ⟨by omega, fun j hj => va_up_n (by omega), fun k j q => ?_⟩
  rw [va_up_n]
  · exact q
  · intro z; rw [z, hn] at q; cases q
theorem mmE_inv {nx : Nat → Nat → Option Nat} {g : Nat → Nat} {c node : Nat} (hB : NXB nx c) (hno : node < c) : ∀ (m e kn : Nat) (nb : Nat → Option Nat) (hd : Nat → Nat), e + m ≤ 24 → BI c g kn nb hd →
    BI c g (mmE nx g node m e kn nb hd).1 (mmE nx g node m e kn nb hd).2.1 (mmE nx g node m e kn nb hd).2.2 ∧ KP kn nb hd (mmE nx g node m e kn nb hd).1 (mmE nx g node m e kn nb hd).2.1 (mmE nx g node m e kn nb hd).2.2 ∧ ∀ e', e ≤ e' → e' < e + m → ∀ t, nx node e' = some t → ∃ j, (mmE nx g node m e kn nb hd).2.1 (g t) = some j
  | 0, e, kn, nb, hd, _, h => ⟨h, ⟨Nat.le_refl _, fun _ _ => rfl, fun _ _ q => q⟩, fun e' h1 h2 => absurd h2 (by omega)⟩
  | m + 1, e, kn, nb, hd, he, h => by
    unfold mmE
    cases hx : nx node e with
    | none =>
      obtain ⟨i1, i2, i3⟩ := mmE_inv hB hno m (e + 1) kn nb hd (by omega) h
      refine ⟨i1, i2, fun e' h1 h2 t ht => ?_⟩
      rcases Nat.lt_or_ge e e' with h3 | h3
      · exact i3 e' (by omega) (by omega) t ht
      · have : e' = e := by omega
        subst this
        rw [hx] at ht; cases ht
    | some t0 =>
      have ht0 := hB node hno e (by omega) t0 hx
      simp only
      by_cases hn : nb (g t0) = none
      · rw [if_pos hn]
        obtain ⟨i1, i2, i3⟩ := mmE_inv hB hno m (e + 1) (kn + 1) _ _ (by omega) (BI_add h ht0 hn)
        refine ⟨i1, KP_tr (KP_add hn) i2, fun e' h1 h2 t ht => ?_⟩
        rcases Nat.lt_or_ge e e' with h3 | h3
        · exact i3 e' (by omega) (by omega) t ht
        · have : e' = e := by omega
          subst this
          rw [hx] at ht; cases ht
          exact ⟨kn, i2.2.2 _ _ va_up_s⟩
      · rw [if_neg hn]
        obtain ⟨i1, i2, i3⟩ := mmE_inv hB hno m (e + 1) kn nb hd (by omega) h
        refine ⟨i1, i2, fun e' h1 h2 t ht => ?_⟩
        rcases Nat.lt_or_ge e e' with h3 | h3
        · exact i3 e' (by omega) (by omega) t ht
        · have : e' = e := by omega
          subst this
          rw [hx] at ht; cases ht
          cases hq : nb (g t0) with
          | none => exact absurd hq hn
          | some j => exact ⟨j, i2.2.2 _ _ hq⟩
theorem nmE_eq {nx : Nat → Nat → Option Nat} {g : Nat → Nat} {c gr node u : Nat} (hB : NXB nx c) (hno : node < c) (hgr : gr ≤ 24) (hg : ∀ i, i < c → g i < gr) : ∀ (m e kn : Nat) (nb : Nat → Option Nat) (hd : Nat → Nat) (ln : Nat → Option Nat), e + m ≤ 24 → BI c g kn nb hd →
    ∃ ln', nmE nx g u node m e kn nb hd ln = ((mmE nx g node m e kn nb hd).1, (mmE nx g node m e kn nb hd).2.1, (mmE nx g node m e kn nb hd).2.2, ln') ∧ (∀ i, ¬ (u * 24 + e ≤ i ∧ i < u * 24 + e + m) → ln' i = ln i) ∧ ∀ e', e ≤ e' → e' < e + m → ln' (u * 24 + e') = (nx node e').bind (fun t => (mmE nx g node m e kn nb hd).2.1 (g t))
  | 0, e, kn, nb, hd, ln, _, h => ⟨ln, rfl, fun _ _ => rfl, fun e' h1 h2 => absurd h2 (by omega)⟩
  | m + 1, e, kn, nb, hd, ln, he, h => by
    unfold nmE mmE
    cases hx : nx node e with
    | none =>
      obtain ⟨ln', i1, i2, i3⟩ := nmE_eq hB hno hgr hg m (e + 1) kn nb hd (va_up ln (u * 24 + e) none) (by omega) h
      refine ⟨ln', i1, fun i hi => ?_, fun e' h1 h2 => ?_⟩
      · rw [i2 i (by omega), va_up_n (by omega)]
      · rcases Nat.lt_or_ge e e' with h3 | h3
        · exact i3 e' (by omega) (by omega)
        · have : e' = e := by omega
          subst this
          rw [i2 _ (by omega), va_up_s, hx]; rfl
    | some t0 =>
      have ht0 := hB node hno e (by omega) t0 hx
      simp only
      by_cases hn : nb (g t0) = none
      · have hk := BI_gr1 h hg ht0 hn
        rw [if_pos ⟨hn, by omega⟩, if_pos hn]
        obtain ⟨ln', i1, i2, i3⟩ := nmE_eq (u := u) hB hno hgr hg m (e + 1) (kn + 1) (va_up nb (g t0) (some kn)) (va_up hd kn t0) (va_up ln (u * 24 + e) (some kn)) (by omega) (BI_add h ht0 hn)
        obtain ⟨j1, j2, j3⟩ := mmE_inv hB hno m (e + 1) (kn + 1) _ _ (by omega) (BI_add h ht0 hn)
        refine ⟨ln', i1, fun i hi => ?_, fun e' h1 h2 => ?_⟩
        · rw [i2 i (by omega), va_up_n (by omega)]
        · rcases Nat.lt_or_ge e e' with h3 | h3
          · exact i3 e' (by omega) (by omega)
          · have : e' = e := by omega
            subst this
            rw [i2 _ (by omega), va_up_s, hx]
            exact (j2.2.2 _ _ va_up_s).symm
      · rw [if_neg (fun q => hn q.1), if_neg hn]
        obtain ⟨ln', i1, i2, i3⟩ := nmE_eq (u := u) hB hno hgr hg m (e + 1) kn nb hd (va_up ln (u * 24 + e) (nb (g t0))) (by omega) h
        obtain ⟨j1, j2, j3⟩ := mmE_inv hB hno m (e + 1) kn nb hd (by omega) h
        refine ⟨ln', i1, fun i hi => ?_, fun e' h1 h2 => ?_⟩
        · rw [i2 i (by omega), va_up_n (by omega)]
        · rcases Nat.lt_or_ge e e' with h3 | h3
          · exact i3 e' (by omega) (by omega)
          · have : e' = e := by omega
            subst this
            rw [i2 _ (by omega), va_up_s, hx]
            cases hq : nb (g t0) with
            | none => exact absurd hq hn
            | some j => exact (j2.2.2 _ _ hq).symm
/-- the successors of the first u states have numbers -/
def CLO (nx : Nat → Nat → Option Nat) (g : Nat → Nat) (u : Nat) (nb : Nat → Option Nat) (hd : Nat → Nat) : Prop := ∀ v, v < u → ∀ e, e < 24 → ∀ t, nx (hd v) e = some t → ∃ j, nb (g t) = some j
theorem CLO_s {nx : Nat → Nat → Option Nat} {g : Nat → Nat} {c u kn : Nat} {nb : Nat → Option Nat} {hd : Nat → Nat} (hB : NXB nx c) (h : BI c g kn nb hd) (hu : u < kn) (hC : CLO nx g u nb hd) : CLO nx g (u + 1) (mmE nx g (hd u) 24 0 kn nb hd).2.1 (mmE nx g (hd u) 24 0 kn nb hd).2.2 := by
  obtain ⟨i1, i2, i3⟩ := mmE_inv hB (h.2 u hu).2 24 0 kn nb hd (by omega) h
  intro v hv e he t ht
  rw [i2.2.1 v (by omega)] at ht
  by_cases hvu : v = u
  · subst hvu
    exact i3 e (by omega) (by omega) t ht
  · obtain ⟨j, hj⟩ := hC v (by omega) e he t ht
    exact ⟨j, i2.2.2 _ _ hj⟩
theorem mmS_inv {nx : Nat → Nat → Option Nat} {g : Nat → Nat} {c : Nat} (hB : NXB nx c) : ∀ (K u kn : Nat) (nb : Nat → Option Nat) (hd : Nat → Nat), c + 1 ≤ u + K → u ≤ kn → BI c g kn nb hd → CLO nx g u nb hd →
    ∃ kn' nb' hd', mmS nx g K u kn nb hd = some (kn', nb', hd') ∧ BI c g kn' nb' hd' ∧ KP kn nb hd kn' nb' hd' ∧ CLO nx g kn' nb' hd'
  | 0, u, kn, nb, hd, hK, hu, h, _ => by have := BI_c h; omega
  | K + 1, u, kn, nb, hd, hK, hu, h, hC => by
    unfold mmS
    by_cases huk : u < kn
    · rw [if_pos huk]
      obtain ⟨i1, i2, i3⟩ := mmE_inv hB (h.2 u huk).2 24 0 kn nb hd (by omega) h
      obtain ⟨kn', nb', hd', j1, j2, j3, j4⟩ := mmS_inv hB K (u + 1) _ _ _ (by omega) (by have := i2.1; omega) i1 (CLO_s hB h huk hC)
      exact ⟨kn', nb', hd', j1, j2, KP_tr i2 j3, j4⟩
    · rw [if_neg huk]
      have : u = kn := by omega
      subst this
      exact ⟨u, nb, hd, rfl, h, ⟨Nat.le_refl _, fun _ _ => rfl, fun _ _ q => q⟩, hC⟩
/-- the rows of the least machine, so far -/
def LNS (nx : Nat → Nat → Option Nat) (g : Nat → Nat) (en : Nat → Bool) (u : Nat) (nb : Nat → Option Nat) (hd : Nat → Nat) (ln : Nat → Option Nat) (le : Nat → Bool) : Prop := ∀ v, v < u → le v = en (hd v) ∧ ∀ e, e < 24 → ln (v * 24 + e) = (nx (hd v) e).bind (fun t => nb (g t))
theorem nmS_eq {nx : Nat → Nat → Option Nat} {g : Nat → Nat} {en : Nat → Bool} {c gr : Nat} (hB : NXB nx c) (hgr : gr ≤ 24) (hg : ∀ i, i < c → g i < gr) : ∀ (K m u kn : Nat) (nb : Nat → Option Nat) (hd : Nat → Nat) (ln : Nat → Option Nat) (le : Nat → Bool), c + 1 ≤ u + K → 25 ≤ m + u → u ≤ kn → BI c g kn nb hd → CLO nx g u nb hd → LNS nx g en u nb hd ln le →
    ∃ kn' nb' hd' ln' le', mmS nx g K u kn nb hd = some (kn', nb', hd') ∧ nmS nx g en gr m u kn nb hd ln le = (kn', ln', le') ∧ LNS nx g en kn' nb' hd' ln' le'
  | 0, m, u, kn, nb, hd, ln, le, hK, _, hu, h, _, _ => by have := BI_c h; omega
  | K + 1, 0, u, kn, nb, hd, ln, le, hK, hm, hu, h, hC, hL => by have := BI_gr h hg; omega
  | K + 1, m + 1, u, kn, nb, hd, ln, le, hK, hm, hu, h, hC, hL => by
    unfold mmS nmS
    have hkg := BI_gr h hg
    by_cases huk : u < kn
    · rw [if_pos huk, if_pos ⟨huk, by omega⟩]
      obtain ⟨i1, i2, i3⟩ := mmE_inv hB (h.2 u huk).2 24 0 kn nb hd (by omega) h
      obtain ⟨ln', l1, l2, l3⟩ := nmE_eq (u := u) hB (h.2 u huk).2 hgr hg 24 0 kn nb hd ln (by omega) h
      rw [l1]
      simp only
      refine nmS_eq hB hgr hg K m (u + 1) _ _ _ _ _ (by omega) (by omega) (by have := i2.1; omega) i1 (CLO_s hB h huk hC) (fun v hv => ?_)
      have hdv := i2.2.1 v (by omega)
      by_cases hvu : v = u
      · subst hvu
        rw [va_up_s, hdv]
        exact ⟨rfl, fun e he => l3 e (by omega) (by omega)⟩
      · rw [va_up_n hvu, hdv]
        obtain ⟨q1, q2⟩ := hL v (by omega)
        refine ⟨q1, fun e he => ?_⟩
        rw [l2 _ (by omega), q2 e he]
        cases hx : nx (hd v) e with
        | none => rfl
        | some t =>
          obtain ⟨j, hj⟩ := hC v (by omega) e he t hx
          show nb (g t) = _
          rw [hj]
          exact (i2.2.2 _ _ hj).symm
    · rw [if_neg huk, if_neg (fun q => huk q.1)]
      have : u = kn := by omega
      subst this
      exact ⟨u, nb, hd, ln, le, rfl, rfl, hL⟩
theorem BI_0 {c : Nat} {g : Nat → Nat} (hc : 1 ≤ c) : BI c g 1 (va_up (fun _ => none) (g 0) (some 0)) (fun _ => 0) := by
  refine ⟨fun k j q => ?_, fun j hj => ?_⟩
  · by_cases hk : k = g 0
    · rw [hk, va_up_s] at q; cases q; exact ⟨by omega, hk.symm⟩
    · rw [va_up_n hk] at q; cases q
  · have : j = 0 := by omega
    subst this
    exact ⟨va_up_s, hc⟩
/-- every node is reached from node 0 -/
def RCH (nx : Nat → Nat → Option Nat) (c : Nat) : Prop := ∀ s, 0 < s → s < c → ∃ p e, p < s ∧ e < 24 ∧ nx p e = some s
theorem num_big {nx : Nat → Nat → Option Nat} {g : Nat → Nat} {c N kn : Nat} {nb : Nat → Option Nat} {hd : Nat → Nat} (hR : RCH nx c) (hS : STB nx c g) (h3 : ∀ k, k < N → ∃ s, s < c ∧ g s = k) (h : BI c g kn nb hd) (h0 : ∃ j, nb (g 0) = some j) (hC : CLO nx g kn nb hd) : N ≤ kn := by
  have all : ∀ n s, s ≤ n → s < c → ∃ j, nb (g s) = some j := by
    intro n
    induction n with
    | zero =>
      intro s hs _
      have : s = 0 := by omega
      subst this; exact h0
    | succ n ih =>
      intro s hs hsc
      rcases Nat.eq_zero_or_pos s with hs0 | hs0
      · subst hs0; exact h0
      obtain ⟨p, e, hp, he, hx⟩ := hR s hs0 hsc
      obtain ⟨j, hj⟩ := ih p (by omega) (by omega)
      obtain ⟨hj1, hj2⟩ := h.1 _ _ hj
      have hst := hS (hd j) p (h.2 j hj1).2 (by omega) hj2 e he
      rw [hx] at hst
      cases hy : nx (hd j) e with
      | none => rw [hy] at hst; cases hst
      | some y =>
        rw [hy] at hst
        have hst : g y = g s := by simpa using hst
        rw [← hst]
        exact hC j hj1 e he y hy
  have hch : ∀ k, ∃ j, k < N → nb k = some j := fun k => by
    by_cases hk : k < N
    · obtain ⟨s, hs, rfl⟩ := h3 k hk
      obtain ⟨j, hj⟩ := all s s (Nat.le_refl _) hs
      exact ⟨j, fun _ => hj⟩
    · exact ⟨0, fun q => absurd q hk⟩
  refine pigeon kn N (fun k => Classical.choose (hch k)) (fun k hk => (h.1 _ _ (Classical.choose_spec (hch k) hk)).1) (fun a b ha hb q => ?_)
  have h1 := (h.1 _ _ (Classical.choose_spec (hch a) ha)).2
  have h2 := (h.1 _ _ (Classical.choose_spec (hch b) hb)).2
  rw [← h1, ← h2]
  exact congrArg (fun x => g (hd x)) q
