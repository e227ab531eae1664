section WAY
variable {S : Nat → List Nat} {bk : Nat → Bool} {pl : Nat → Nat}
/-- what the Model's search has at its end: shapes, where from, rank and level of each, the first that breaks -/
def gM (S : Nat → List Nat) (bk : Nat → Bool) (pl : Nat → Nat) (c : Nat) (sh cf rk lv : Nat → Nat) (br : Option Nat) : Prop := (1 ≤ c ∧ sh 0 = 0 ∧ lv 0 = 0) ∧ (∀ a, a < c → ∀ b, b < c → sh a = sh b → a = b) ∧ (∀ a, a < c → gD S (lv a) (sh a)) ∧ (∀ a, a < c → ∀ x, x ∈ S (sh a) → ∃ b, b < c ∧ sh b = x) ∧ (∀ a, 0 < a → a < c → cf a < c ∧ lv (cf a) + 1 = lv a ∧ sh a ∈ S (sh (cf a)) ∧ ∀ b, b < c → lv b + 1 = lv a → sh a ∈ S (sh b) → rk (cf a) ≤ rk b) ∧ (∀ a b, 0 < a → a < c → 0 < b → b < c → lv a = lv b → (rk a < rk b ↔ rk (cf a) * 64 + pl (sh a) < rk (cf b) * 64 + pl (sh b))) ∧ (br = none → ∀ a, a < c → bk (sh a) = false) ∧ ∀ k, br = some k → k < c ∧ bk (sh k) = true ∧ ∀ b, b < c → bk (sh b) = true → lv k < lv b ∨ (lv k = lv b ∧ rk k ≤ rk b)
theorem gM_all {c : Nat} {sh cf rk lv : Nat → Nat} {br : Option Nat} (h : gM S bk pl c sh cf rk lv br) : ∀ k x, gR S k x → ∃ a, a < c ∧ sh a = x
  | 0, x, hx => by
    have hx : x = 0 := hx
    exact ⟨0, by have := h.1.1; omega, by rw [h.1.2.1, hx]⟩
  | k + 1, x, ⟨y, hy, hxy⟩ => by
    obtain ⟨a, ha, e⟩ := gM_all h k y hy
    exact h.2.2.2.1 a ha x (by rw [e]; exact hxy)
/-- the way back -/
def bW (cf : Nat → Nat) (k : Nat) : Nat → Nat
  | 0 => k
  | j + 1 => cf (bW cf k j)
/-- what the class has at its end: the nearest break's depth, what leads to one, what stands on the way, the ways' places -/
def gC (S : Nat → List Nat) (bk : Nat → Bool) (pl : Nat → Nat) (c N : Nat) (fo dp ps : Nat → Nat) (LE : Nat → Prop) (OW : Nat → Nat → Prop) : Prop := bI S c c fo dp ∧ ((∃ a, a < c ∧ bk (fo a) = true ∧ dp a = N) ∧ ∀ a, a < c → bk (fo a) = true → N ≤ dp a) ∧ (∀ a, a < c → (LE a ↔ (dp a = N ∧ bk (fo a) = true) ∨ (dp a < N ∧ ∃ b, b < c ∧ fo b ∈ S (fo a) ∧ dp b = dp a + 1 ∧ LE b))) ∧ (∀ a, a < c → (OW 0 a ↔ a = 0)) ∧ (∀ d, d < N → ∀ b, b < c → (OW (d + 1) b ↔ (dp b = d + 1 ∧ LE b ∧ pl (fo b) = ps (d + 1) ∧ ∃ a, a < c ∧ OW d a ∧ fo b ∈ S (fo a)))) ∧ ps 0 = pl 0 ∧ ∀ d, d < N → (∀ b, b < c → dp b = d + 1 → LE b → (∃ a, a < c ∧ OW d a ∧ fo b ∈ S (fo a)) → ps (d + 1) ≤ pl (fo b)) ∧ (ps (d + 1) = 32 ∨ ∃ b, b < c ∧ dp b = d + 1 ∧ LE b ∧ (∃ a, a < c ∧ OW d a ∧ fo b ∈ S (fo a)) ∧ ps (d + 1) = pl (fo b))
theorem gw_eq {c c' N k : Nat} {sh cf rk lv fo dp ps : Nat → Nat} {LE : Nat → Prop} {OW : Nat → Nat → Prop} (hM : gM S bk pl c sh cf rk lv (some k)) (hpl : ∀ a, a < c → pl (sh a) ≤ 32) (hC : gC S bk pl c' N fo dp ps LE OW) : lv k = N ∧ ∀ j, j ≤ N → bW cf k j < c ∧ lv (bW cf k j) = N - j ∧ ps (N - j) = pl (sh (bW cf k j)) := by
  have hMall := gM_all hM
  obtain ⟨⟨m0, m1, m2⟩, m3, m4, m5, m6, m7, -, m9⟩ := hM
  obtain ⟨hB, ⟨n1, n2⟩, hLE, hO0, hO, p0, hps⟩ := hC
  have hCall := bI_all hB
  obtain ⟨⟨b0, b1, b2⟩, b3, b4, -⟩ := hB
  obtain ⟨k1, k2, k3⟩ := m9 k rfl
  -- an index there, an index here
  have toC : ∀ a, a < c → ∃ a', a' < c' ∧ fo a' = sh a ∧ dp a' = lv a := fun a ha => by
    obtain ⟨a', h1, h2⟩ := hCall _ _ (m4 a ha).1
    exact ⟨a', h1, h2, gD_u (by rw [← h2]; exact b4 a' h1) (m4 a ha)⟩
  have toM : ∀ a', a' < c' → ∃ a, a < c ∧ sh a = fo a' ∧ lv a = dp a' := fun a' ha => by
    obtain ⟨a, h1, h2⟩ := hMall _ _ (b4 a' ha).1
    exact ⟨a, h1, h2, gD_u (by rw [← h2]; exact m4 a h1) (b4 a' ha)⟩
  have LEn : ∀ a', a' < c' → ∀ a'', a'' < c' → fo a' = fo a'' → LE a' → LE a'' := fun a' h1 a'' h2 e h => by
    have := b3 a' h1 a'' h2 e
    subst this; exact h
  have L : ∀ a, a < c → ∀ a', a' < c' → fo a' = sh a → dp a' = lv a := fun a ha a' ha' e => gD_u (by rw [← e]; exact b4 a' ha') (m4 a ha)
  have key : ∀ a b, 0 < a → a < c → 0 < b → b < c → lv a = lv b → rk b ≤ rk a → rk (cf b) ≤ rk (cf a) ∧ (rk (cf b) = rk (cf a) → pl (sh b) ≤ pl (sh a)) := fun a b ha ha' hb hb' e h => by
    have h1 := m7 a b ha ha' hb hb' e
    have h2 := hpl a ha'
    have h3 := hpl b hb'
    have h4 : ¬ rk (cf a) * 64 + pl (sh a) < rk (cf b) * 64 + pl (sh b) := fun z => by
      have := h1.mpr z
      omega
    omega
  -- the Model's way is least among those that lead on
  have A : ∀ j, j ≤ N → bW cf k j < c ∧ lv (bW cf k j) = N - j ∧ (∀ a', a' < c' → fo a' = sh (bW cf k j) → LE a') ∧ ∀ a, a < c → lv a = N - j → (∃ a', a' < c' ∧ fo a' = sh a ∧ LE a') → rk (bW cf k j) ≤ rk a := by
    intro j
    induction j with
    | zero =>
      intro _
      have hlN : lv k = N := by
        obtain ⟨a', q1, q2, q3⟩ := toC k k1
        have r1 := n2 a' q1 (by rw [q2]; exact k2)
        obtain ⟨b', q4, q5, q6⟩ := n1
        obtain ⟨b, q7, q8, q9⟩ := toM b' q4
        have := k3 b q7 (by rw [q8]; exact q5)
        omega
      refine ⟨k1, hlN, fun a' ha' e => ?_, fun a ha hl ⟨a', ha', e, hle⟩ => ?_⟩
      · exact (hLE a' ha').mpr (Or.inl ⟨by rw [L k k1 a' ha' e]; exact hlN, by rw [e]; exact k2⟩)
      · have hd := L a ha a' ha' e
        rcases (hLE a' ha').mp hle with ⟨-, q⟩ | ⟨q, -⟩
        · rw [e] at q
          have := k3 a ha q
          show rk k ≤ rk a
          omega
        · omega
    | succ j ih =>
      intro hj
      obtain ⟨i1, i2, i3, i4⟩ := ih (by omega)
      have hpos : 0 < bW cf k j := by
        rcases Nat.eq_zero_or_pos (bW cf k j) with z | z
        · rw [z, m2] at i2; omega
        · exact z
      obtain ⟨e1, e2, e3, e4⟩ := m6 _ hpos i1
      refine ⟨e1, by show lv (cf (bW cf k j)) = _; omega, fun a' ha' e => ?_, fun a ha hl ⟨a', ha', e, hle⟩ => ?_⟩
      · have hd := L _ e1 a' ha' e
        obtain ⟨y', q1, q2, q3⟩ := toC _ i1
        have e : fo a' = sh (cf (bW cf k j)) := e
        refine (hLE a' ha').mpr (Or.inr ⟨by omega, y', q1, by rw [q2, e]; exact e3, by omega, i3 y' q1 q2⟩)
      · have hd := L a ha a' ha' e
        rcases (hLE a' ha').mp hle with ⟨q, -⟩ | ⟨-, y', q1, q2, q3, q4⟩
        · omega
        · obtain ⟨y, r1, r2, r3⟩ := toM y' q1
          have hy : 0 < y := by
            rcases Nat.eq_zero_or_pos y with z | z
            · rw [z, m2] at r3; omega
            · exact z
          have s1 := i4 y r1 (by omega) ⟨y', q1, r2.symm, q4⟩
          have s2 := (key y _ hy r1 hpos i1 (by omega) s1).1
          have s3 := (m6 y hy r1).2.2.2 a ha (by omega) (by rw [r2, ← e]; exact q2)
          show rk (cf (bW cf k j)) ≤ rk a
          omega
  have hlN : lv k = N := (A 0 (by omega)).2.1
  have hOd : ∀ d, d ≤ N → ∀ a, a < c' → OW d a → dp a = d := fun d hd a ha h => by
    cases d with
    | zero => rw [(hO0 a ha).mp h]; exact b2.1
    | succ d => exact ((hO d (by omega) a ha).mp h).1
  -- and the class's is the same
  have B : ∀ d, d ≤ N → (∀ a, a < c → lv a = d → ((∃ a', a' < c' ∧ fo a' = sh a ∧ OW d a') ↔ (∃ a', a' < c' ∧ fo a' = sh a ∧ LE a') ∧ rk a = rk (bW cf k (N - d)))) ∧ ps d = pl (sh (bW cf k (N - d))) := by
    intro d
    induction d with
    | zero =>
      intro _
      obtain ⟨i1, i2, i3, i4⟩ := A (N - 0) (by omega)
      have only : ∀ a, a < c → lv a = 0 → a = 0 := fun a ha hl => by
        have h1 := (m4 a ha).1
        rw [hl] at h1
        have h1 : sh a = 0 := h1
        exact m3 a ha 0 (by omega) (by rw [h1, m1])
      have hb0 := only _ i1 (by omega)
      refine ⟨fun a ha hl => ?_, by rw [hb0, m1]; exact p0⟩
      have ha0 := only a ha hl
      subst ha0
      rw [hb0] at i3 ⊢
      refine ⟨fun _ => ⟨?_, rfl⟩, fun _ => ⟨0, by omega, by rw [b1, m1], (hO0 0 (by omega)).mpr rfl⟩⟩
      obtain ⟨a', q1, q2, -⟩ := toC 0 ha
      exact ⟨a', q1, q2, i3 a' q1 q2⟩
    | succ d ih =>
      intro hd
      obtain ⟨ih1, ih2⟩ := ih (by omega)
      obtain ⟨i1, i2, i3, i4⟩ := A (N - d) (by omega)
      obtain ⟨j1, j2, j3, j4⟩ := A (N - (d + 1)) (by omega)
      have j2' : lv (bW cf k (N - (d + 1))) = d + 1 := by rw [j2, Nat.sub_sub_self hd]
      have eb : bW cf k (N - d) = cf (bW cf k (N - (d + 1))) := by
        rw [show N - d = N - (d + 1) + 1 by omega]; rfl
      have hpos : 0 < bW cf k (N - (d + 1)) := by
        rcases Nat.eq_zero_or_pos (bW cf k (N - (d + 1))) with z | z
        · rw [z, m2] at j2; omega
        · exact z
      obtain ⟨f1, f2, f3, f4⟩ := m6 _ hpos j1
      rw [← eb] at f1 f2 f3 f4
      -- those behind the way
      have cand : ∀ y', y' < c' → dp y' = d + 1 → LE y' → (∃ a', a' < c' ∧ OW d a' ∧ fo y' ∈ S (fo a')) → ∀ y, y < c → sh y = fo y' → rk (cf y) = rk (bW cf k (N - d)) ∧ pl (sh (bW cf k (N - (d + 1)))) ≤ pl (sh y) := by
        intro y' hy' hdy hle ⟨a', ha', how, hin⟩ y hy e
        have hly := L y hy y' hy' e.symm
        obtain ⟨a, q1, q2, q3⟩ := toM a' ha'
        have hda := hOd d (by omega) a' ha' how
        have hra := ((ih1 a q1 (by omega)).mp ⟨a', ha', q2.symm, how⟩).2
        have hy0 : 0 < y := by
          rcases Nat.eq_zero_or_pos y with z | z
          · rw [z, m2] at hly; omega
          · exact z
        obtain ⟨g1, g2, g3, g4⟩ := m6 y hy0 hy
        have s1 := g4 a q1 (by omega) (by rw [e, q2]; exact hin)
        obtain ⟨z', r1, r2, r3⟩ := toC _ g1
        have s2 := i4 (cf y) g1 (by omega) ⟨z', r1, r2, (hLE z' r1).mpr (Or.inr ⟨by omega, y', hy', by rw [r2, ← e]; exact g3, by omega, hle⟩)⟩
        have hrk : rk (cf y) = rk (bW cf k (N - d)) := by omega
        refine ⟨hrk, ?_⟩
        have s3 := j4 y hy (by omega) ⟨y', hy', e.symm, hle⟩
        exact (key y _ hy0 hy hpos j1 (by omega) s3).2 (by rw [← eb]; exact hrk.symm)
      obtain ⟨b', q1, q2, q3⟩ := toC _ j1
      obtain ⟨d', r1, r2, r3⟩ := toC _ i1
      have hOWb : ∃ a', a' < c' ∧ fo a' = sh (bW cf k (N - d)) ∧ OW d a' := (ih1 _ i1 (by omega)).mpr ⟨⟨d', r1, r2, i3 d' r1 r2⟩, rfl⟩
      obtain ⟨o', o1, o2, o3⟩ := hOWb
      have hps' := hps d (by omega)
      have h1 := hps'.1 b' q1 (q3.trans j2') (j3 b' q1 q2) ⟨o', o1, o3, by rw [q2, o2]; exact f3⟩
      rw [q2] at h1
      have h2 := hpl _ j1
      have hpsd : ps (d + 1) = pl (sh (bW cf k (N - (d + 1)))) := by
        rcases hps'.2 with z | ⟨y', y1, y2, y3, y4, y5⟩
        · omega
        · obtain ⟨y, w1, w2, w3⟩ := toM y' y1
          have := (cand y' y1 y2 y3 y4 y w1 w2).2
          rw [w2] at this
          omega
      refine ⟨fun a ha hl => ⟨fun ⟨a', ha', e, how⟩ => ?_, fun ⟨⟨a', ha', e, hle⟩, hr⟩ => ?_⟩, hpsd⟩
      · obtain ⟨u1, u2, u3, u4⟩ := (hO d (by omega) a' ha').mp how
        refine ⟨⟨a', ha', e, u2⟩, ?_⟩
        have hc1 := cand a' ha' u1 u2 u4 a ha e.symm
        have ha0 : 0 < a := by
          rcases Nat.eq_zero_or_pos a with z | z
          · rw [z, m2] at hl; omega
          · exact z
        have z1 := m7 a _ ha0 ha hpos j1 (hl.trans j2'.symm)
        have z2 := m7 _ a hpos j1 ha0 ha (hl.trans j2'.symm).symm
        rw [← eb] at z1 z2
        have e2 : pl (sh a) = pl (sh (bW cf k (N - (d + 1)))) := by rw [← e, u3, hpsd]
        rw [hc1.1, e2] at z1 z2
        rcases Nat.lt_trichotomy (rk a) (rk (bW cf k (N - (d + 1)))) with z | z | z
        · exact absurd (z1.mp z) (Nat.lt_irrefl _)
        · exact z
        · exact absurd (z2.mp z) (Nat.lt_irrefl _)
      · have ha0 : 0 < a := by
          rcases Nat.eq_zero_or_pos a with z | z
          · rw [z, m2] at hl; omega
          · exact z
        have z1 := key a _ ha0 ha hpos j1 (hl.trans j2'.symm) (Nat.le_of_eq hr.symm)
        have z2 := key _ a hpos j1 ha0 ha (hl.trans j2'.symm).symm (Nat.le_of_eq hr)
        rw [← eb] at z1 z2
        have hrc : rk (cf a) = rk (bW cf k (N - d)) := by omega
        have hpc : pl (sh a) = pl (sh (bW cf k (N - (d + 1)))) := by
          have := z1.2 hrc.symm
          have := z2.2 hrc
          omega
        obtain ⟨g1, g2, g3, g4⟩ := m6 a ha0 ha
        obtain ⟨z', w1, w2, w3⟩ := toC _ g1
        have hd' := L a ha a' ha' e
        obtain ⟨v', v1, v2, v3⟩ := (ih1 (cf a) g1 (by omega)).mpr ⟨⟨z', w1, w2, (hLE z' w1).mpr (Or.inr ⟨by omega, a', ha', by rw [e, w2]; exact g3, by omega, hle⟩)⟩, hrc⟩
        exact ⟨a', ha', e, (hO d (by omega) a' ha').mpr ⟨by omega, hle, by rw [e, hpsd]; exact hpc, v', v1, v3, by rw [e, v2]; exact g3⟩⟩
  refine ⟨hlN, fun j hj => ⟨(A j hj).1, (A j hj).2.1, ?_⟩⟩
  have := (B (N - j) (by omega)).2
  rw [show N - (N - j) = j by omega] at this
  exact this
end WAY
