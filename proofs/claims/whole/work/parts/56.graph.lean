/-! a search from 0 through a graph over numbers: what it finds, the levels, the ways -/
section GRA
variable {S : Nat → List Nat}
/-- there is a way of so many steps -/
def gR (S : Nat → List Nat) : Nat → Nat → Prop
  | 0, x => x = 0
  | k + 1, x => ∃ y, gR S k y ∧ x ∈ S y
/-- and none that is shorter -/
def gD (S : Nat → List Nat) (k x : Nat) : Prop := gR S k x ∧ ∀ j, j < k → ¬ gR S j x
theorem gR_w {P : Nat → Prop} (h0 : P 0) (hS : ∀ n, P n → ∀ x, x ∈ S n → P x) : ∀ k x, gR S k x → P x
  | 0, x, h => by
    have h : x = 0 := h
    rw [h]; exact h0
  | k + 1, x, ⟨y, hy, hx⟩ => hS y (gR_w h0 hS k y hy) x hx
theorem gD_u {j k x : Nat} (h1 : gD S j x) (h2 : gD S k x) : j = k := by
  rcases Nat.lt_trichotomy j k with h | h | h
  · exact absurd h1.1 (h2.2 j h)
  · exact h
  · exact absurd h2.1 (h1.2 k h)
theorem gD_le {j k x : Nat} (h1 : gD S j x) (h2 : gR S k x) : j ≤ k := by
  rcases Nat.lt_or_ge k j with h | h
  · exact absurd h2 (h1.2 k h)
  · exact h
/-- what is found, nearest first: i of c are looked through -/
def bI (S : Nat → List Nat) (i c : Nat) (fo dp : Nat → Nat) : Prop := (1 ≤ c ∧ fo 0 = 0 ∧ dp 0 = 0 ∧ ∀ a, a < c → dp a ≤ a) ∧ (∀ a, a < c → ∀ b, b < c → fo a = fo b → a = b) ∧ (∀ a, a < c → gD S (dp a) (fo a)) ∧ (∀ a b, a ≤ b → b < c → dp a ≤ dp b) ∧ (∀ a, a < c → i < c → dp a ≤ dp i + 1) ∧ ∀ a, a < i → a < c → ∀ x, x ∈ S (fo a) → ∃ b, b < c ∧ fo b = x
theorem bI_0 (fo dp : Nat → Nat) (h1 : fo 0 = 0) (h2 : dp 0 = 0) : bI S 0 1 fo dp := by
  refine ⟨⟨by omega, h1, h2, fun a ha => by
    have : a = 0 := by omega
    subst this
    omega⟩, fun a ha b hb _ => by omega, fun a ha => ?_, fun a b hab hb => ?_, fun a ha _ => ?_, fun a ha => absurd ha (by omega)⟩
  · have : a = 0 := by omega
    subst this
    rw [h1, h2]
    exact ⟨rfl, fun j hj => absurd hj (by omega)⟩
  · have e1 : a = 0 := by omega
    have e2 : b = 0 := by omega
    subst e1 e2
    exact Nat.le_refl _
  · have e1 : a = 0 := by omega
    subst e1
    omega
/-- what lies nearer than the one looked at is looked through -/
theorem bI_near {i c : Nat} {fo dp : Nat → Nat} (h : bI S i c fo dp) (hi : i < c) : ∀ k, k < dp i → ∀ x, gR S k x → ∃ a, a < i ∧ fo a = x := by
  obtain ⟨⟨h0, h1, h2⟩, h3, h4, h5, h6, h7⟩ := h
  have fin : ∀ k, k < dp i → ∀ x, gR S k x → (∃ a, a < c ∧ fo a = x) → ∃ a, a < i ∧ fo a = x := by
    intro k hk x hx ⟨a, ha, e⟩
    refine ⟨a, ?_, e⟩
    have hd := gD_le (h4 a ha) (by rw [e]; exact hx)
    rcases Nat.lt_or_ge a i with q | q
    · exact q
    · have := h5 i a q ha
      omega
  intro k
  induction k with
  | zero =>
    intro hk x hx
    have hx' : x = 0 := hx
    exact fin 0 hk x hx ⟨0, by omega, by rw [h1, hx']⟩
  | succ k ih =>
    intro hk x hx
    have hx0 := hx
    obtain ⟨y, hy, hxy⟩ := hx
    obtain ⟨a, ha, e⟩ := ih (by omega) y hy
    exact fin _ hk x hx0 (h7 a ha (by omega) x (by rw [e]; exact hxy))
theorem bI_add {i c y : Nat} {fo dp : Nat → Nat} (h : bI S i c fo dp) (hi : i < c) (hy : y ∈ S (fo i)) (hn : ∀ b, b < c → ¬ fo b = y) : bI S i (c + 1) (va_up fo c y) (va_up dp c (dp i + 1)) := by
  have hnear := bI_near h hi
  obtain ⟨⟨h0, h1, h2⟩, h3, h4, h5, h6, h7⟩ := h
  have hic : ¬ i = c := by omega
  refine ⟨⟨by omega, by rw [va_up_n (by omega)]; exact h1, by rw [va_up_n (by omega)]; exact h2.1, fun a ha => ?_⟩, fun a ha b hb e => ?_, fun a ha => ?_, fun a b hab hb => ?_, fun a ha _ => ?_, fun a ha hac x hx => ?_⟩
  · by_cases hac : a = c
    · subst hac
      rw [va_up_s]
      have := h2.2 i hi
      omega
    · rw [va_up_n hac]; exact h2.2 a (by omega)
  · by_cases hac : a = c
    · by_cases hbc : b = c
      · omega
      · subst hac
        rw [va_up_s, va_up_n hbc] at e
        exact absurd e.symm (hn b (by omega))
    · by_cases hbc : b = c
      · subst hbc
        rw [va_up_s, va_up_n hac] at e
        exact absurd e (hn a (by omega))
      · rw [va_up_n hac, va_up_n hbc] at e
        exact h3 a (by omega) b (by omega) e
  · by_cases hac : a = c
    · subst hac
      rw [va_up_s, va_up_s]
      refine ⟨⟨fo i, (h4 i hi).1, hy⟩, fun j hj hr => ?_⟩
      cases j with
      | zero =>
        have hr : y = 0 := hr
        exact hn 0 (by omega) (by rw [h1, hr])
      | succ j =>
        obtain ⟨z, hz, hyz⟩ := hr
        obtain ⟨b, hb, e⟩ := hnear j (by omega) z hz
        obtain ⟨b', hb', e'⟩ := h7 b hb (by omega) y (by rw [e]; exact hyz)
        exact hn b' hb' e'
    · rw [va_up_n hac, va_up_n hac]
      exact h4 a (by omega)
  · by_cases hbc : b = c
    · subst hbc
      rw [va_up_s]
      by_cases hac : a = b
      · subst hac; rw [va_up_s]; exact Nat.le_refl _
      · rw [va_up_n hac]; exact h6 a (by omega) hi
    · rw [va_up_n hbc, va_up_n (by omega)]
      exact h5 a b hab (by omega)
  · rw [va_up_n hic]
    by_cases hac : a = c
    · subst hac; rw [va_up_s]; exact Nat.le_refl _
    · rw [va_up_n hac]; exact h6 a (by omega) hi
  · rw [va_up_n (by omega)] at hx
    obtain ⟨b, hb, e⟩ := h7 a ha (by omega) x hx
    exact ⟨b, by omega, by rw [va_up_n (by omega)]; exact e⟩
theorem bI_next {i c : Nat} {fo dp : Nat → Nat} (h : bI S i c fo dp) (hi : i < c) (hy : ∀ x, x ∈ S (fo i) → ∃ b, b < c ∧ fo b = x) : bI S (i + 1) c fo dp := by
  obtain ⟨h0, h3, h4, h5, h6, h7⟩ := h
  refine ⟨h0, h3, h4, h5, fun a ha hi' => ?_, fun a ha hac x hx => ?_⟩
  · have q1 := h6 a ha hi
    have q2 := h5 i (i + 1) (by omega) hi'
    omega
  · by_cases hai : a = i
    · subst hai; exact hy x hx
    · exact h7 a (by omega) hac x hx
/-- in the end all is found -/
theorem bI_all {c : Nat} {fo dp : Nat → Nat} (h : bI S c c fo dp) : ∀ k x, gR S k x → ∃ a, a < c ∧ fo a = x
  | 0, x, hx => by
    have hx : x = 0 := hx
    exact ⟨0, by have := h.1.1; omega, by rw [h.1.2.1, hx]⟩
  | k + 1, x, ⟨y, hy, hxy⟩ => by
    obtain ⟨a, ha, e⟩ := bI_all h k y hy
    exact h.2.2.2.2.2 a ha ha x (by rw [e]; exact hxy)
/-- fewer than so many don't hit all -/
theorem g_hole : ∀ (m n : Nat) (pos : Nat → Nat), m < n → ∃ q, q < n ∧ ∀ k, k < m → ¬ pos k = q
  | 0, n, pos, h => ⟨0, h, fun k hk => absurd hk (by omega)⟩
  | m + 1, n, pos, h => by
    obtain ⟨q, hq, hk⟩ := g_hole m (n - 1) (fun k => if pos k > pos m then pos k - 1 else pos k) (by omega)
    by_cases hqa : q ≥ pos m
    · refine ⟨q + 1, by omega, fun k hk' e => ?_⟩
      by_cases hkm : k = m
      · subst hkm; omega
      · have := hk k (by omega)
        split at this <;> omega
    · refine ⟨q, by omega, fun k hk' e => ?_⟩
      by_cases hkm : k = m
      · subst hkm; omega
      · have := hk k (by omega)
        split at this <;> omega
/-- different ones that are all among so many are no more -/
theorem g_card {m c : Nat} {sh fo : Nat → Nat} (hi : ∀ a, a < m → ∀ b, b < m → sh a = sh b → a = b) (hm : ∀ a, a < m → ∃ b, b < c ∧ fo b = sh a) : m ≤ c := by
  rcases Nat.lt_or_ge c m with h | h
  · exfalso
    have key : ∀ k, ∃ p, ∀ a, a < m → fo k = sh a → p = a := by
      intro k
      by_cases hk : ∃ a, a < m ∧ fo k = sh a
      · obtain ⟨a, ha, e⟩ := hk
        exact ⟨a, fun b hb e' => hi a ha b hb (by rw [← e, e'])⟩
      · exact ⟨0, fun a ha e => absurd ⟨a, ha, e⟩ hk⟩
    obtain ⟨q, hq, hk⟩ := g_hole c m (fun k => Classical.choose (key k)) h
    obtain ⟨b, hb, e⟩ := hm q hq
    exact hk b hb (Classical.choose_spec (key b) q hq e)
  · exact h
/-- a table with places: its words are found from their first place on -/
def HT (Z : Nat) (hs : Nat → Nat) (c : Nat) (sh sl : Nat → Nat) : Prop := (∀ q, q < Z → sl q ≤ c) ∧ (∃ pos : Nat → Nat, ∀ q, q < Z → ¬ sl q = 0 → pos (sl q - 1) = q) ∧ ∀ k, k < c → ∃ t, t < Z ∧ sl ((hs (sh k) + t) % Z) = k + 1 ∧ ∀ t', t' < t → ¬ sl ((hs (sh k) + t') % Z) = 0
/-- a place is free -/
theorem HT_free {Z c : Nat} {hs sh sl : Nat → Nat} (h : HT Z hs c sh sl) (hc : c < Z) (x : Nat) : ∃ t, t < Z ∧ sl ((hs x + t) % Z) = 0 := by
  obtain ⟨h1, ⟨pos, h2⟩, h3⟩ := h
  obtain ⟨q, hq, hk⟩ := g_hole c Z pos hc
  have hz : sl q = 0 := by
    by_cases h0 : sl q = 0
    · exact h0
    · have hle := h1 q hq
      exact absurd (h2 q hq h0) (hk _ (by omega))
  have hx : hs x % Z < Z := Nat.mod_lt _ (by omega)
  have hm : ∀ t, (hs x + t) % Z = (hs x % Z + t) % Z := fun t => by rw [Nat.mod_add_mod]
  by_cases hqx : hs x % Z ≤ q
  · refine ⟨q - hs x % Z, by omega, ?_⟩
    rw [hm, show hs x % Z + (q - hs x % Z) = q by omega, Nat.mod_eq_of_lt hq]
    exact hz
  · refine ⟨q + Z - hs x % Z, by omega, ?_⟩
    rw [hm, show hs x % Z + (q + Z - hs x % Z) = q + Z by omega, Nat.add_mod_right, Nat.mod_eq_of_lt hq]
    exact hz
/-- a free place says that a word isn't there -/
theorem HT_no {Z c x t : Nat} {hs sh sl : Nat → Nat} (h : HT Z hs c sh sl) (hp : ∀ t', t' < t → ∀ k, k < c → sl ((hs x + t') % Z) = k + 1 → ¬ sh k = x) (h0 : sl ((hs x + t) % Z) = 0) : ∀ k, k < c → ¬ sh k = x := by
  intro k hk e
  obtain ⟨u, hu, hs1, hs2⟩ := h.2.2 k hk
  rw [e] at hs1 hs2
  rcases Nat.lt_trichotomy u t with q | q | q
  · exact hp u q k hk hs1 e
  · subst q; rw [h0] at hs1; omega
  · exact hs2 t q h0
theorem HT_put {Z c x t : Nat} {hs sh sl : Nat → Nat} (h : HT Z hs c sh sl) (ht : t < Z) (hp : ∀ t', t' < t → ¬ sl ((hs x + t') % Z) = 0) (h0 : sl ((hs x + t) % Z) = 0) : HT Z hs (c + 1) (va_up sh c x) (va_up sl ((hs x + t) % Z) (c + 1)) := by
  obtain ⟨h1, ⟨pos, h2⟩, h3⟩ := h
  have hZ : 0 < Z := by omega
  refine ⟨fun q hq => ?_, ⟨va_up pos c ((hs x + t) % Z), fun q hq hne => ?_⟩, fun k hk => ?_⟩
  · by_cases e : q = (hs x + t) % Z
    · rw [e, va_up_s]; exact Nat.le_refl _
    · rw [va_up_n e]; have := h1 q hq; omega
  · by_cases e : q = (hs x + t) % Z
    · rw [e, va_up_s, show c + 1 - 1 = c by omega, va_up_s]
    · rw [va_up_n e] at hne ⊢
      have := h1 q hq
      rw [va_up_n (by omega)]
      exact h2 q hq hne
  · by_cases hkc : k = c
    · subst hkc
      rw [va_up_s]
      refine ⟨t, ht, va_up_s, fun t' ht' => ?_⟩
      by_cases e : (hs x + t') % Z = (hs x + t) % Z
      · rw [e, va_up_s]; omega
      · rw [va_up_n e]; exact hp t' ht'
    · rw [va_up_n hkc]
      obtain ⟨u, hu, q1, q2⟩ := h3 k (by omega)
      refine ⟨u, hu, ?_, fun t' ht' => ?_⟩
      · by_cases e : (hs (sh k) + u) % Z = (hs x + t) % Z
        · rw [e, h0] at q1; omega
        · rw [va_up_n e]; exact q1
      · by_cases e : (hs (sh k) + t') % Z = (hs x + t) % Z
        · rw [e, va_up_s]; omega
        · rw [va_up_n e]; exact q2 t' ht'
theorem HT_0 {Z : Nat} {hs sh sl : Nat → Nat} (h : ∀ q, q < Z → sl q = 0) : HT Z hs 0 sh sl := ⟨fun q hq => by rw [h q hq]; exact Nat.le_refl _, ⟨fun _ => 0, fun q hq hne => absurd (h q hq) hne⟩, fun k hk => absurd hk (by omega)⟩
end GRA
