/-! drawn runs, over numbers: objects (count, kinds, owners, last calls, states, broken), variables and bag, what is counted -/
abbrev OB := Nat × (Nat → Nat) × (Nat → Option Nat) × (Nat → Option Nat) × (Nat → Nat) × (Nat → Bool)
abbrev VB := (Nat → Option Nat) × Nat × (Nat → Nat)
abbrev TY := (Nat → Int32) × (Nat → Int32) × (Nat → Int32) × (Nat → Int32)
abbrev DS := Int32 × OB × VB × TY
/-- an event happens to an object -/
def hp1 (nx : Nat → Nat → Option Nat) (s : (Nat → Nat) × (Nat → Bool)) (i e : Nat) : (Nat → Nat) × (Nat → Bool) := if s.2 i then s else match nx (s.1 i) e with
  | none => (s.1, va_up s.2 i true)
  | some j => (va_up s.1 i j, s.2)
theorem hp1_ne {nx : Nat → Nat → Option Nat} {s : (Nat → Nat) × (Nat → Bool)} {i e j : Nat} (h : ¬ j = i) : (hp1 nx s i e).1 j = s.1 j ∧ (hp1 nx s i e).2 j = s.2 j := by
  unfold hp1
  by_cases hb : s.2 i = true
  · rw [if_pos hb]; exact ⟨rfl, rfl⟩
  · rw [if_neg hb]
    cases hx : nx (s.1 i) e with
    | none => exact ⟨rfl, va_up_n h⟩
    | some j' => exact ⟨va_up_n h, rfl⟩
/-- and to all that it owns -/
def hpL (nx : Nat → Nat → Option Nat) (ow : Nat → Option Nat) (o e : Nat) : Nat → Nat → (Nat → Nat) × (Nat → Bool) → (Nat → Nat) × (Nat → Bool)
  | 0, _, s => s
  | m + 1, i, s => if ow i = some o then hpL nx ow o e m (i + 1) (hp1 nx s i e) else hpL nx ow o e m (i + 1) s
/-- how many of a kind are broken -/
def cntB (kind : Nat) (kd : Nat → Nat) (br : Nat → Bool) : Nat → Nat
  | 0 => 0
  | n + 1 => cntB kind kd br n + (if kd n = kind ∧ br n = true then 1 else 0)
theorem cntB_eq {kind : Nat} {kd kd' : Nat → Nat} {br br' : Nat → Bool} : ∀ n, (∀ i, i < n → kd i = kd' i ∧ br i = br' i) → cntB kind kd br n = cntB kind kd' br' n
  | 0, _ => rfl
  | n + 1, h => by
    unfold cntB
    rw [cntB_eq n (fun i hi => h i (by omega)), (h n (by omega)).1, (h n (by omega)).2]
theorem cntB_up {kind : Nat} {kd : Nat → Nat} {br : Nat → Bool} {i : Nat} (hb : br i = false) : ∀ n, i < n → cntB kind kd (va_up br i true) n = cntB kind kd br n + (if kd i = kind then 1 else 0)
  | 0, h => by omega
  | n + 1, h => by
    unfold cntB
    by_cases hin : i = n
    · subst hin
      rw [cntB_eq i (kd' := kd) (br' := br) (fun j hj => ⟨rfl, va_up_n (by omega)⟩), va_up_s, hb]
      simp
    · rw [cntB_up hb n (by omega), va_up_n (by omega)]
      omega
def mkS (s : DS) (v k : Nat) (o : Option Nat) : DS := match s with
  | (x, (ob, kd, ow, la, st, br), (va, bn, bg), (t0, t1, t2, t3)) => (x, (ob + 1, va_up kd ob k, va_up ow ob o, va_up la ob none, va_up st ob 0, va_up br ob false), (va_up va v (some ob), bn, bg), (upd t0 k (t0 k + nI 1), t1, t2, t3))
def caS (nx : Nat → Nat → Option Nat) (sees : Bool) (s : DS) (o e : Nat) : DS := match s with
  | (x, (ob, kd, ow, la, st, br), (va, bn, bg), (t0, t1, t2, t3)) =>
    (x, (ob, kd, ow, va_up la o (some e), (if sees then hpL nx ow o (12 + e) ob 0 (hp1 nx (st, br) o e) else hp1 nx (st, br) o e).1, (if sees then hpL nx ow o (12 + e) ob 0 (hp1 nx (st, br) o e) else hp1 nx (st, br) o e).2), (va, bn, bg), (t0, (match la o with
      | none => upd t1 (12 * kd o + e) (t1 (12 * kd o + e) + nI 1)
      | some _ => t1), t2, (match la o with
      | none => t3
      | some l => upd t3 (12 * (12 * kd o + l) + e) (t3 (12 * (12 * kd o + l) + e) + nI 1))))
/-- whether one of the first is there -/
def inBg (bg : Nat → Nat) (o : Nat) : Nat → Bool := fun n => mtB bg n o
def puS (s : DS) (o : Option Nat) : DS := match s, o with
  | s, none => s
  | (x, obs, (va, bn, bg), t), some o => if mtB bg bn o then (x, obs, (va, bn, bg), t) else (x, obs, (va, bn + 1, va_up bg bn o), t)
/-- the next number -/
def drX (x : Int32) : Int32 := x * 1103515245 + nI 12345
def drN (x : Int32) : Nat := x.toBitVec.toNat / 65536
def geS (s : DS) (v : Nat) : DS := match s with
  | (x, obs, (va, bn, bg), t) => if bn = 0 then (x, obs, (va_up va v none, bn, bg), t) else if bn = 1 then (x, obs, (va_up va v (some (bg 0)), bn, bg), t) else (drX x, obs, (va_up va v (some (bg (drN (drX x) % bn))), bn, bg), t)
/-- one op -/
def dSt (nx : Nat → Nat → Option Nat) (sees : Bool) (o : Nat) (a b c : Int32) (p : Nat) (s : DS) : DS × Option Nat := match o with
  | 0 => (mkS s a.toNatClampNeg b.toNatClampNeg none, some (p + 1))
  | 1 => match s.2.2.1.1 c.toNatClampNeg with
    | none => (s, none)
    | some w => (mkS s a.toNatClampNeg b.toNatClampNeg (some w), some (p + 1))
  | 2 => ((s.1, s.2.1, (va_up s.2.2.1.1 a.toNatClampNeg (s.2.2.1.1 b.toNatClampNeg), s.2.2.1.2), s.2.2.2), some (p + 1))
  | 3 => ((s.1, s.2.1, (va_up s.2.2.1.1 a.toNatClampNeg none, s.2.2.1.2), s.2.2.2), some (p + 1))
  | 4 => match s.2.2.1.1 a.toNatClampNeg with
    | none => (s, none)
    | some w => (caS nx sees s w b.toNatClampNeg, some (p + 1))
  | 5 => ((drX s.1, s.2), some (if drN (drX s.1) % 2 = 1 then a.toNatClampNeg else p + 1))
  | 6 => (s, some a.toNatClampNeg)
  | 7 => match s.2.2.1.1 a.toNatClampNeg with
    | none => (s, some b.toNatClampNeg)
    | some _ => (s, some (p + 1))
  | 8 => (puS s (s.2.2.1.1 a.toNatClampNeg), some (p + 1))
  | 9 => (geS s a.toNatClampNeg, some (p + 1))
  | 10 => ((s.1, s.2.1, (s.2.2.1.1, 0, s.2.2.1.2.2), s.2.2.2), some (p + 1))
  | _ => (s, none)
/-- a run: code of n ops -/
def dRn (nx : Nat → Nat → Option Nat) (sees : Bool) (n : Nat) (o a b c : Nat → Int32) : Nat → Option Nat → DS → DS × Option Nat
  | 0, p, s => (s, p)
  | K + 1, none, s => (s, none)
  | K + 1, some p, s => if p < n then dRn nx sees n o a b c K (dSt nx sees (o p).toNatClampNeg (a p) (b p) (c p) p s).2 (dSt nx sees (o p).toNatClampNeg (a p) (b p) (c p) p s).1 else (s, none)
/-- the run ends: last calls are counted, states looked at -/
def enS (en : Nat → Bool) (kd : Nat → Nat) (la : Nat → Option Nat) (st : Nat → Nat) : Nat → Nat → (Nat → Bool) × (Nat → Int32) → (Nat → Bool) × (Nat → Int32)
  | 0, _, r => r
  | m + 1, i, r => enS en kd la st m (i + 1) (va_up r.1 i (r.1 i || !en (st i)), match la i with
    | none => r.2
    | some l => upd r.2 (12 * kd i + l) (r.2 (12 * kd i + l) + nI 1))
def enD (en : Nat → Bool) (s : DS) : DS := match s with
  | (x, (ob, kd, ow, la, st, br), vb, (t0, t1, t2, t3)) => (x, (ob, kd, ow, la, st, (enS en kd la st ob 0 (br, t2)).1), vb, (t0, t1, (enS en kd la st ob 0 (br, t2)).2, t3))
/-- a run begins -/
def d0 (x : Int32) (t : TY) : DS := (x, (0, fun _ => 0, fun _ => none, fun _ => none, fun _ => 0, fun _ => false), (fun _ => none, 0, fun _ => 0), t)
/-- one run -/
def dR1 (nx : Nat → Nat → Option Nat) (en : Nat → Bool) (sees : Bool) (n : Nat) (o a b c : Nat → Int32) (x : Int32) (t : TY) : DS := match (dRn nx sees n o a b c 200 (some 0) (d0 x t)).2 with
  | none => enD en (dRn nx sees n o a b c 200 (some 0) (d0 x t)).1
  | some _ => (dRn nx sees n o a b c 200 (some 0) (d0 x t)).1
/-- how many objects of a kind are broken -/
def bkS (kind : Nat) (s : DS) : Nat := cntB kind s.2.1.2.1 s.2.1.2.2.2.2.2 s.2.1.1
def dRs (nx : Nat → Nat → Option Nat) (en : Nat → Bool) (sees : Bool) (n : Nat) (o a b c : Nat → Int32) (kind : Nat) : Nat → Int32 → TY → Nat → Int32 × TY × Nat
  | 0, x, t, k => (x, t, k)
  | R + 1, x, t, k => dRs nx en sees n o a b c kind R (dR1 nx en sees n o a b c x t).1 (dR1 nx en sees n o a b c x t).2.2.2 (k + bkS kind (dR1 nx en sees n o a b c x t))
theorem cntB_le {kind : Nat} {kd : Nat → Nat} {br : Nat → Bool} : ∀ n, cntB kind kd br n ≤ n
  | 0 => Nat.le_refl _
  | n + 1 => by
    unfold cntB
    have := cntB_le (kind := kind) (kd := kd) (br := br) n
    split <;> omega
theorem cnt_hp1 {kind : Nat} {kd : Nat → Nat} {nx : Nat → Nat → Option Nat} {st : Nat → Nat} {br : Nat → Bool} {i e n : Nat} (hi : i < n) : cntB kind kd (hp1 nx (st, br) i e).2 n = cntB kind kd br n + (if kd i = kind ∧ br i = false ∧ nx (st i) e = none then 1 else 0) := by
  unfold hp1
  cases hb : br i with
  | true =>
    rw [if_pos hb, if_neg (fun z => by cases z.2.1)]; rfl
  | false =>
    rw [if_neg (show ¬ br i = true by rw [hb]; simp)]
    cases hx : nx (st i) e with
    | none =>
      show cntB kind kd (va_up br i true) n = _
      rw [cntB_up hb n hi]
      by_cases hk : kd i = kind
      · rw [if_pos hk, if_pos ⟨hk, rfl, rfl⟩]
      · rw [if_neg hk, if_neg (fun z => hk z.1)]
    | some j =>
      rw [if_neg (fun z => by cases z.2.2)]; rfl
theorem hp1_lt {nx : Nat → Nat → Option Nat} {sn i e ob : Nat} {s : (Nat → Nat) × (Nat → Bool)} (hnx : ∀ u, u < sn → ∀ e, e < 24 → ∀ j, nx u e = some j → j < sn) (he : e < 24) (hi : i < ob) (h : ∀ j, j < ob → s.1 j < sn) : ∀ j, j < ob → (hp1 nx s i e).1 j < sn := fun j hj => by
  by_cases hji : j = i
  · subst hji
    unfold hp1
    split
    · exact h j hj
    · cases hx : nx (s.1 j) e with
      | none => exact h j hj
      | some y =>
        show va_up s.1 j y j < sn
        rw [va_up_s]; exact hnx _ (h j hj) e he y hx
  · rw [(hp1_ne hji).1]; exact h j hj
theorem hpL_lt {nx : Nat → Nat → Option Nat} {ow : Nat → Option Nat} {o sn e ob : Nat} (hnx : ∀ u, u < sn → ∀ e, e < 24 → ∀ j, nx u e = some j → j < sn) (he : e < 24) : ∀ (m i : Nat) (s : (Nat → Nat) × (Nat → Bool)), i + m ≤ ob → (∀ j, j < ob → s.1 j < sn) → ∀ j, j < ob → (hpL nx ow o e m i s).1 j < sn
  | 0, i, s, _, h => h
  | m + 1, i, s, hi, h => by
    unfold hpL
    split
    · exact hpL_lt hnx he m (i + 1) _ (by omega) (hp1_lt hnx he (by omega) h)
    · exact hpL_lt hnx he m (i + 1) s (by omega) h
/-- all numbers are small -/
def wD (sn n : Nat) (s : DS) : Prop := match s with
  | (_, (ob, kd, ow, la, st, _), (va, bn, bg), _) => ob ≤ n ∧ bn ≤ n ∧ (∀ i, i < ob → kd i < 4 ∧ (∀ j, ow i = some j → j < ob) ∧ (∀ j, la i = some j → j < 12) ∧ st i < sn) ∧ (∀ i, i < 6 → ∀ j, va i = some j → j < ob) ∧ ∀ i, i < bn → bg i < ob
/-- the class's cells -/
def cD (kind bk : Nat) (s : DS) (ph : List px_E) : Prop := match s with
  | (x, (ob, kd, ow, la, st, br), (va, bn, bg), (t0, t1, t2, t3)) => ∃ va' kd' ow' st' la' bg' f0 f1 f2 f3 : Nat → Int32, ph[88]? = some (DN (nI kind) x (nI bk) (nI ob) (nI bn)) ∧ ph[89]? = some TL ∧ (ph[94]? = some (IA 6 va') ∧ ph[95]? = some (IA 200 kd') ∧ ph[96]? = some (IA 200 ow') ∧ ph[97]? = some (IA 200 st') ∧ ph[98]? = some (IA 200 la') ∧ ph[99]? = some (IA 200 bg')) ∧ (ph[90]? = some (IA 4 f0) ∧ ph[91]? = some (IA 48 f1) ∧ ph[92]? = some (IA 48 f2) ∧ ph[93]? = some (IA 576 f3)) ∧ (∀ i, i < 6 → va' i = oI (va i)) ∧ (∀ i, i < ob → kd' i = nI (kd i) ∧ ow' i = oI (ow i) ∧ la' i = oI (la i) ∧ (kd i = kind → st' i = if br i then -2 else nI (st i))) ∧ (∀ i, i < bn → bg' i = nI (bg i)) ∧ (∀ i, i < 4 → f0 i = t0 i) ∧ (∀ i, i < 48 → f1 i = t1 i) ∧ (∀ i, i < 48 → f2 i = t2 i) ∧ ∀ i, i < 576 → f3 i = t3 i
theorem oI_some {o : Option Nat} {j : Nat} (hj : j < 2 ^ 31) (h : ∀ i, o = some i → i < 2 ^ 31) : oI o = nI j ↔ o = some j := by
  constructor
  · intro q
    cases o with
    | none => exact absurd q.symm (nI_m2 hj)
    | some i => rw [(nI_eq (h i rfl) hj).mp q]
  · intro q; rw [q]; rfl
theorem oI_none {o : Option Nat} (h : ∀ i, o = some i → i < 2 ^ 31) : oI o = -2 ↔ o = none := by
  cases o with
  | none => exact ⟨fun _ => rfl, fun _ => rfl⟩
  | some i => exact ⟨fun q => absurd q (nI_m2 (h i rfl)), fun q => by cases q⟩
/-- a change of a bit of a table -/
theorem up_t {f t : Nat → Int32} {n k : Nat} (h : ∀ i, i < n → f i = t i) (hk : k < n) : ∀ i, i < n → upd f k (f k + nI 1) i = upd t k (t k + nI 1) i := fun i hi => by
  by_cases hik : i = k
  · subst hik; rw [pk_us, pk_us, h i hi]
  · unfold upd; rw [if_neg hik, if_neg hik]; exact h i hi
theorem wD_mono {sn n n' : Nat} {s : DS} (h : wD sn n s) (hn : n ≤ n') : wD sn n' s := by
  obtain ⟨x, ⟨ob, kd, ow, la, st, br⟩, ⟨va, bn, bg⟩, ⟨t0, t1, t2, t3⟩⟩ := s
  exact ⟨by have := h.1; omega, by have := h.2.1; omega, h.2.2⟩
theorem wD_mk {sn n v k : Nat} {o : Option Nat} {s : DS} (h : wD sn n s) (hs : 1 ≤ sn) (hk : k < 4) (ho : ∀ j, o = some j → j < s.2.1.1) : wD sn (n + 1) (mkS s v k o) := by
  obtain ⟨x, ⟨ob, kd, ow, la, st, br⟩, ⟨va, bn, bg⟩, ⟨t0, t1, t2, t3⟩⟩ := s
  obtain ⟨w1, w2, w3, w4, w5⟩ := h
  refine ⟨by omega, by omega, fun i hi => ?_, fun i hi j hj => ?_, fun i hi => by have := w5 i hi; omega⟩
  · by_cases hio : i = ob
    · subst hio
      rw [va_up_s, va_up_s, va_up_s, va_up_s]
      exact ⟨hk, fun j hj => by have : j < i := ho j hj; omega, fun j hj => (by cases hj), hs⟩
    · rw [va_up_n hio, va_up_n hio, va_up_n hio, va_up_n hio]
      obtain ⟨a1, a2, a3, a4⟩ := w3 i (by omega)
      exact ⟨a1, fun j hj => by have := a2 j hj; omega, a3, a4⟩
  · by_cases hiv : i = v
    · subst hiv
      rw [va_up_s] at hj
      cases hj; omega
    · rw [va_up_n hiv] at hj
      have := w4 i hi j hj
      omega
theorem wD_ca {sn n o e : Nat} {nx : Nat → Nat → Option Nat} {sees : Bool} {s : DS} (h : wD sn n s) (hnx : ∀ u, u < sn → ∀ e, e < 24 → ∀ j, nx u e = some j → j < sn) (ho : o < s.2.1.1) (he : e < 12) : wD sn n (caS nx sees s o e) := by
  obtain ⟨x, ⟨ob, kd, ow, la, st, br⟩, ⟨va, bn, bg⟩, ⟨t0, t1, t2, t3⟩⟩ := s
  obtain ⟨w1, w2, w3, w4, w5⟩ := h
  have ho : o < ob := ho
  have h1 : ∀ j, j < ob → (hp1 nx (st, br) o e).1 j < sn := hp1_lt hnx (by omega) ho (fun j hj => (w3 j hj).2.2.2)
  have h2 : ∀ j, j < ob → (if sees then hpL nx ow o (12 + e) ob 0 (hp1 nx (st, br) o e) else hp1 nx (st, br) o e).1 j < sn := by
    cases sees with
    | false => exact h1
    | true => exact hpL_lt hnx (by omega) ob 0 _ (by omega) h1
  refine ⟨w1, w2, fun i hi => ?_, w4, w5⟩
  obtain ⟨a1, a2, a3, a4⟩ := w3 i hi
  refine ⟨a1, a2, fun j hj => ?_, h2 i hi⟩
  by_cases hio : i = o
  · subst hio
    rw [va_up_s] at hj
    cases hj; exact he
  · rw [va_up_n hio] at hj
    exact a3 j hj
theorem wD_pu {sn n : Nat} {o : Option Nat} {s : DS} (h : wD sn n s) (ho : ∀ j, o = some j → j < s.2.1.1) : wD sn (n + 1) (puS s o) := by
  obtain ⟨x, ⟨ob, kd, ow, la, st, br⟩, ⟨va, bn, bg⟩, ⟨t0, t1, t2, t3⟩⟩ := s
  have h' := h
  obtain ⟨w1, w2, w3, w4, w5⟩ := h
  cases o with
  | none => exact wD_mono h' (by omega)
  | some j =>
    have hj : j < ob := ho j rfl
    unfold puS
    simp only
    split
    · exact wD_mono h' (by omega)
    · refine ⟨by omega, by omega, w3, w4, fun i hi => ?_⟩
      by_cases hib : i = bn
      · subst hib; rw [va_up_s]; exact hj
      · rw [va_up_n hib]; exact w5 i (by omega)
theorem wD_va {sn n v : Nat} {o : Option Nat} {x : Int32} {obs : OB} {va : Nat → Option Nat} {bb : Nat × (Nat → Nat)} {t : TY} (y : Int32) (h : wD sn n (x, obs, (va, bb), t)) (ho : ∀ j, o = some j → j < obs.1) : wD sn n (y, obs, (va_up va v o, bb), t) := by
  obtain ⟨ob, kd, ow, la, st, br⟩ := obs
  obtain ⟨w1, w2, w3, w4, w5⟩ := h
  refine ⟨w1, w2, w3, fun i hi j hj => ?_, w5⟩
  by_cases hiv : i = v
  · subst hiv
    rw [va_up_s] at hj
    exact ho j hj
  · rw [va_up_n hiv] at hj
    exact w4 i hi j hj
theorem wD_ge {sn n v : Nat} {s : DS} (h : wD sn n s) : wD sn n (geS s v) := by
  obtain ⟨x, obs, ⟨va, bn, bg⟩, t⟩ := s
  have hb : ∀ i, i < bn → bg i < obs.1 := h.2.2.2.2
  unfold geS
  simp only
  split
  · exact wD_va x h (fun j hj => by cases hj)
  · split
    · refine wD_va x h (fun j hj => ?_)
      cases hj
      exact hb 0 (by omega)
    · refine wD_va (drX x) h (fun j hj => ?_)
      cases hj
      exact hb _ (Nat.mod_lt _ (by omega))
/-- between runs: the class -/
def cE (kind bk : Nat) (x : Int32) (t : TY) (ph : List px_E) : Prop := ∃ (ob bn : Int32) (f0 f1 f2 f3 : Nat → Int32), ph[88]? = some (DN (nI kind) x (nI bk) ob bn) ∧ ph[89]? = some TL ∧ (isIA ph 94 6 ∧ isIA ph 95 200 ∧ isIA ph 96 200 ∧ isIA ph 97 200 ∧ isIA ph 98 200 ∧ isIA ph 99 200) ∧ (ph[90]? = some (IA 4 f0) ∧ ph[91]? = some (IA 48 f1) ∧ ph[92]? = some (IA 48 f2) ∧ ph[93]? = some (IA 576 f3)) ∧ (∀ i, i < 4 → f0 i = t.1 i) ∧ (∀ i, i < 48 → f1 i = t.2.1 i) ∧ (∀ i, i < 48 → f2 i = t.2.2.1 i) ∧ ∀ i, i < 576 → f3 i = t.2.2.2 i
theorem cD_E {kind bk : Nat} {s : DS} {ph : List px_E} (h : cD kind bk s ph) : cE kind bk s.1 s.2.2.2 ph := by
  obtain ⟨x, ⟨ob, kd, ow, la, st, br⟩, ⟨va, bn, bg⟩, ⟨t0, t1, t2, t3⟩⟩ := s
  obtain ⟨va', kd', ow', st', la', bg', f0, f1, f2, f3, h88, h89, ⟨h94, h95, h96, h97, h98, h99⟩, h90, v1, v2, v3, v4⟩ := h
  exact ⟨_, _, f0, f1, f2, f3, h88, h89, ⟨⟨_, h94⟩, ⟨_, h95⟩, ⟨_, h96⟩, ⟨_, h97⟩, ⟨_, h98⟩, ⟨_, h99⟩⟩, h90, v4⟩
/-- all cells but the class's drawn runs -/
def FC : Nat → px_E → Prop := fun k _ => decide (88 ≤ k ∧ k < 100) = false
theorem fc_set {ph ph' : List px_E} {k : Nat} {x : px_E} (h : fr FC ph ph') (hk : decide (88 ≤ k ∧ k < 100) = true) : fr FC ph (ph'.set k x) := fun j e p q => by
  have hne : ¬ k = j := fun z => by
    subst z
    have p : decide (88 ≤ k ∧ k < 100) = false := p
    rw [hk] at p
    cases p
  rw [px_put_ne hne]
  exact h j e p q
theorem FC_dy : ∀ k e, 153 ≤ k → FC k e := fun _ _ h => decide_eq_false (by omega)
theorem FC_sm : ∀ k e, 153 ≤ k → small e → FC k e := fun k e h _ => FC_dy k e h
theorem FC_lt {k : Nat} {e : px_E} (h : k < 88 ∨ 100 ≤ k) : FC k e := decide_eq_false (by omega)
theorem FC_7 : ∀ k e, grp k = 7 → FC k e := fun k e h => by
  refine FC_lt ?_
  rcases Nat.lt_or_ge k 88 with h1 | h1
  · exact Or.inl h1
  · rcases Nat.lt_or_ge k 100 with h2 | h2
    · exfalso
      unfold grp at h
      rw [if_neg (by omega), if_neg (by omega), if_neg (by omega), if_neg (by omega), if_neg (by omega), if_neg (by omega), if_neg (by omega), if_neg (by omega), if_pos h2] at h
      cases h
    · exact Or.inr h2
theorem FC_9 {ph ph' : List px_E} (h : fr FC ph ph') : fr (FR [9]) ph ph' := fr_mono h (fun k e p => by
  refine FC_lt ?_
  rcases Nat.lt_or_ge k 88 with h1 | h1
  · exact Or.inl h1
  · rcases Nat.lt_or_ge k 100 with h2 | h2
    · exfalso
      have hg : grp k = 9 := by
        unfold grp
        rw [if_neg (by omega), if_neg (by omega), if_neg (by omega), if_neg (by omega), if_neg (by omega), if_neg (by omega), if_neg (by omega), if_neg (by omega), if_pos h2]
      have p : [9].contains (grp k) = false := p
      rw [hg] at p
      cases p
    · exact Or.inr h2)
section DRW
variable {G : px_G} {ph : List px_E} {d : Nat} {Q : Option Value → List px_E → Prop} {kind bk sn n : Nat} {nx : Nat → Nat → Option Nat} {en : Nat → Bool}
set_option maxRecDepth 100000 in
set_option maxHeartbeats 4000000 in
theorem c_W_drawNumber {s : DS} (h : cD kind bk s ph) (hQ : ∀ ph', fr FC ph ph' → cD kind bk (drX s.1, s.2) ph' → Q (some (.int (nI (drN (drX s.1))))) ph') : px_Met G mX4_drawNumber d 0 0 [.ref 88] ph Q := by
  obtain ⟨x, ⟨ob, kd, ow, la, st, br⟩, ⟨va, bn, bg⟩, ⟨t0, t1, t2, t3⟩⟩ := s
  obtain ⟨va', kd', ow', st', la', bg', f0, f1, f2, f3, h88, h89, ⟨h94, h95, h96, h97, h98, h99⟩, ⟨h90, h91, h92, h93⟩, hv⟩ := h
  refine px_start kX4_drawNumber (Nat.le_of_ble_eq_true rfl) ?_
  show px_W G _ _ _ _ _ 0 0 0 [some (.ref 88)] [] ph
  have e16 : ∀ y : Int32, U8 y 16 = nI (drN y) := fun y => by
    have h1 := U8_n (v := y) (s := 16) (by omega)
    apply Int32.toBitVec_inj.mp
    apply BitVec.eq_of_toNat_eq
    rw [h1]
    show _ = (BitVec.ofNat 32 (drN y)).toNat
    have hy : y.toBitVec.toNat < 2 ^ 32 := y.toBitVec.isLt
    rw [BitVec.toNat_ofNat]
    unfold drN
    omega
  (repeat (first | (refine px_st rfl rfl ?_; simp only [px_wp, px_at, px_set, px_set2, px_clr, px_ldi, px_ldl, px_lda, px_i1, px_i2, px_l1, px_l2, px_il, px_a1, px_r1, px_r2, px_ir, px_vir, px_g, px_v1, px_v2, px_gf, px_pf, px_ps, px_ar, px_nth, px_upd, px_zero, px_dfl, px_put_self, px_put_ne, px_sw, nI_add, pk_mul, true_and, and_true, Nat.reduceAdd, Nat.reduceLT, Nat.reduceEqDiff, List.length_cons, List.length_nil, true_or, or_true, List.set_set, ne_eq, not_false_eq_true, Fin.isValue, Fin.val_zero, Fin.val_one, Fin.val_two, reduceCtorEq, Option.map_some, List.length_set, Nat.zero_lt_succ, Option.toList_some, Option.toList_none, List.cons_append, List.nil_append, px_b_2, IA, LA, BA, ZA, QA, PT, DR, TL, MC, CD, CC, false_and, or_false, false_or, nar_b, nar_0, nar_1, nar_y, h88, U8_f, e16]) | (refine ⟨_, rfl, by omega, ?_⟩) | (refine ⟨fun h => absurd h (nI_nlt (by omega) (by omega)), fun _ => ?_⟩) | (refine ⟨fun _ => ?_, fun h => absurd h (nI_nlt (by omega) (by omega))⟩) | (refine ⟨fun h => absurd (nI_lt (by omega) (by omega)) h, fun _ => ?_⟩) | (refine ⟨fun _ => ?_, fun h => absurd (nI_lt (by omega) (by omega)) h⟩) | (refine ⟨fun h => absurd ((nI_eq (by omega) (by omega)).mp h) (by omega), fun _ => ?_⟩) | (refine ⟨fun _ => ?_, fun h => absurd ((nI_eq (by omega) (by omega)).mp h) (by omega)⟩) | (refine ⟨fun h => absurd h (by decide), fun _ => ?_⟩) | (refine ⟨fun _ => ?_, fun h => absurd h (by decide)⟩) | (refine ⟨fun h => absurd rfl h, fun _ => ?_⟩) | (refine ⟨fun _ => ?_, fun h => absurd rfl h⟩)))
  refine px_ireturn rfl (Or.inl rfl) (Nat.le_refl _) (Nat.le_refl _) (hQ _ (fc_set fr_id rfl) ⟨va', kd', ow', st', la', bg', f0, f1, f2, f3, px_put_self.trans (by rw [h88]; rfl), (px_put_ne (by decide)).trans h89, ⟨(px_put_ne (by decide)).trans h94, (px_put_ne (by decide)).trans h95, (px_put_ne (by decide)).trans h96, (px_put_ne (by decide)).trans h97, (px_put_ne (by decide)).trans h98, (px_put_ne (by decide)).trans h99⟩, ⟨(px_put_ne (by decide)).trans h90, (px_put_ne (by decide)).trans h91, (px_put_ne (by decide)).trans h92, (px_put_ne (by decide)).trans h93⟩, hv⟩)
set_option maxRecDepth 100000 in
set_option maxHeartbeats 4000000 in
theorem c_W_isWatched {i kk : Nat} {x bk' ob' bn' : Int32} {kd' st' : Nat → Int32} {br : Bool} {u : Nat} (hi : i < 200) (hk : kind < 4) (hkk : kk < 4) (hu : u < 24) (h88 : ph[88]? = some (DN (nI kind) x bk' ob' bn')) (h95 : ph[95]? = some (IA 200 kd')) (h97 : ph[97]? = some (IA 200 st')) (hkd : kd' i = nI kk) (hst : kk = kind → st' i = if br then -2 else nI u) (hQ : Q (some (.int (px_b (decide (kk = kind) && !br)))) ph) : px_Met G mX4_isWatched d 0 0 [.ref 88, .int (nI i)] ph Q := by
  refine px_start kX4_isWatched (Nat.le_of_ble_eq_true rfl) ?_
  show px_W G _ _ _ _ _ 0 0 0 [some (.ref 88), some (.int (nI i))] [] ph
  by_cases hkk' : kk = kind
  · have hs := hst hkk'
    rw [decide_eq_true hkk'] at hQ
    rw [hkk'] at hkd
    cases br with
    | true =>
      have hs : st' i = -2 := hs
      (repeat (first | (refine px_st rfl rfl ?_; simp only [px_wp, px_at, px_set, px_set2, px_clr, px_ldi, px_ldl, px_lda, px_i1, px_i2, px_l1, px_l2, px_il, px_a1, px_r1, px_r2, px_ir, px_vir, px_g, px_v1, px_v2, px_gf, px_pf, px_ps, px_ar, px_nth, px_upd, px_zero, px_dfl, px_put_self, px_put_ne, px_sw, nI_add, pk_mul, true_and, and_true, Nat.reduceAdd, Nat.reduceLT, Nat.reduceEqDiff, List.length_cons, List.length_nil, true_or, or_true, List.set_set, ne_eq, not_false_eq_true, Fin.isValue, Fin.val_zero, Fin.val_one, Fin.val_two, reduceCtorEq, Option.map_some, List.length_set, Nat.zero_lt_succ, Option.toList_some, Option.toList_none, List.cons_append, List.nil_append, px_b_2, IA, LA, BA, ZA, QA, PT, DR, TL, MC, CD, CC, false_and, or_false, false_or, nar_b, nar_0, nar_1, nar_y, h88, h95, h97, hkd, hs]) | (refine ⟨_, rfl, by omega, ?_⟩) | (refine ⟨fun h => absurd h (nI_nlt (by omega) (by omega)), fun _ => ?_⟩) | (refine ⟨fun _ => ?_, fun h => absurd h (nI_nlt (by omega) (by omega))⟩) | (refine ⟨fun h => absurd (nI_lt (by omega) (by omega)) h, fun _ => ?_⟩) | (refine ⟨fun _ => ?_, fun h => absurd (nI_lt (by omega) (by omega)) h⟩) | (refine ⟨fun h => absurd ((nI_eq (by omega) (by omega)).mp h) (by omega), fun _ => ?_⟩) | (refine ⟨fun _ => ?_, fun h => absurd ((nI_eq (by omega) (by omega)).mp h) (by omega)⟩) | (refine ⟨fun h => absurd h (by decide), fun _ => ?_⟩) | (refine ⟨fun _ => ?_, fun h => absurd h (by decide)⟩) | (refine ⟨fun h => absurd rfl h, fun _ => ?_⟩) | (refine ⟨fun _ => ?_, fun h => absurd rfl h⟩)))
      exact px_ireturn rfl (Or.inr ⟨rfl, Or.inl rfl⟩) (Nat.le_refl _) (Nat.le_refl _) hQ
    | false =>
      have hs : st' i = nI u := hs
      have hne : ¬ nI u = -2 := nI_m2 (by omega)
      (repeat (first | (refine ⟨fun h => absurd h hne, fun _ => ?_⟩) | (refine px_st rfl rfl ?_; simp only [px_wp, px_at, px_set, px_set2, px_clr, px_ldi, px_ldl, px_lda, px_i1, px_i2, px_l1, px_l2, px_il, px_a1, px_r1, px_r2, px_ir, px_vir, px_g, px_v1, px_v2, px_gf, px_pf, px_ps, px_ar, px_nth, px_upd, px_zero, px_dfl, px_put_self, px_put_ne, px_sw, nI_add, pk_mul, true_and, and_true, Nat.reduceAdd, Nat.reduceLT, Nat.reduceEqDiff, List.length_cons, List.length_nil, true_or, or_true, List.set_set, ne_eq, not_false_eq_true, Fin.isValue, Fin.val_zero, Fin.val_one, Fin.val_two, reduceCtorEq, Option.map_some, List.length_set, Nat.zero_lt_succ, Option.toList_some, Option.toList_none, List.cons_append, List.nil_append, px_b_2, IA, LA, BA, ZA, QA, PT, DR, TL, MC, CD, CC, false_and, or_false, false_or, nar_b, nar_0, nar_1, nar_y, h88, h95, h97, hkd, hs]) | (refine ⟨_, rfl, by omega, ?_⟩) | (refine ⟨fun h => absurd h (nI_nlt (by omega) (by omega)), fun _ => ?_⟩) | (refine ⟨fun _ => ?_, fun h => absurd h (nI_nlt (by omega) (by omega))⟩) | (refine ⟨fun h => absurd (nI_lt (by omega) (by omega)) h, fun _ => ?_⟩) | (refine ⟨fun _ => ?_, fun h => absurd (nI_lt (by omega) (by omega)) h⟩) | (refine ⟨fun h => absurd ((nI_eq (by omega) (by omega)).mp h) (by omega), fun _ => ?_⟩) | (refine ⟨fun _ => ?_, fun h => absurd ((nI_eq (by omega) (by omega)).mp h) (by omega)⟩) | (refine ⟨fun h => absurd h (by decide), fun _ => ?_⟩) | (refine ⟨fun _ => ?_, fun h => absurd h (by decide)⟩) | (refine ⟨fun h => absurd rfl h, fun _ => ?_⟩) | (refine ⟨fun _ => ?_, fun h => absurd rfl h⟩)))
      exact px_ireturn rfl (Or.inr ⟨rfl, Or.inr rfl⟩) (Nat.le_refl _) (Nat.le_refl _) hQ
  · rw [decide_eq_false hkk'] at hQ
    (repeat (first | (refine px_st rfl rfl ?_; simp only [px_wp, px_at, px_set, px_set2, px_clr, px_ldi, px_ldl, px_lda, px_i1, px_i2, px_l1, px_l2, px_il, px_a1, px_r1, px_r2, px_ir, px_vir, px_g, px_v1, px_v2, px_gf, px_pf, px_ps, px_ar, px_nth, px_upd, px_zero, px_dfl, px_put_self, px_put_ne, px_sw, nI_add, pk_mul, true_and, and_true, Nat.reduceAdd, Nat.reduceLT, Nat.reduceEqDiff, List.length_cons, List.length_nil, true_or, or_true, List.set_set, ne_eq, not_false_eq_true, Fin.isValue, Fin.val_zero, Fin.val_one, Fin.val_two, reduceCtorEq, Option.map_some, List.length_set, Nat.zero_lt_succ, Option.toList_some, Option.toList_none, List.cons_append, List.nil_append, px_b_2, IA, LA, BA, ZA, QA, PT, DR, TL, MC, CD, CC, false_and, or_false, false_or, nar_b, nar_0, nar_1, nar_y, h88, h95, h97, hkd]) | (refine ⟨_, rfl, by omega, ?_⟩) | (refine ⟨fun h => absurd h (nI_nlt (by omega) (by omega)), fun _ => ?_⟩) | (refine ⟨fun _ => ?_, fun h => absurd h (nI_nlt (by omega) (by omega))⟩) | (refine ⟨fun h => absurd (nI_lt (by omega) (by omega)) h, fun _ => ?_⟩) | (refine ⟨fun _ => ?_, fun h => absurd (nI_lt (by omega) (by omega)) h⟩) | (refine ⟨fun h => absurd ((nI_eq (by omega) (by omega)).mp h) (by omega), fun _ => ?_⟩) | (refine ⟨fun _ => ?_, fun h => absurd ((nI_eq (by omega) (by omega)).mp h) (by omega)⟩) | (refine ⟨fun h => absurd h (by decide), fun _ => ?_⟩) | (refine ⟨fun _ => ?_, fun h => absurd h (by decide)⟩) | (refine ⟨fun h => absurd rfl h, fun _ => ?_⟩) | (refine ⟨fun _ => ?_, fun h => absurd rfl h⟩)))
    exact px_ireturn rfl (Or.inr ⟨rfl, Or.inl rfl⟩) (Nat.le_refl _) (Nat.le_refl _) hQ
set_option maxRecDepth 100000 in
set_option maxHeartbeats 4000000 in
theorem c_W_takeEvent {s : DS} {a i e : Nat} (hn : n ≤ 200) (hk : kind < 4) (hw : wD sn n s) (h : cD kind bk s ph) (hM : isM ph a sn nx en) (hi : i < s.2.1.1) (he : e < 24) (hbk : bk < 2 ^ 30) (hQ : ∀ ph', fr FC ph ph' → cD kind (bk + (if s.2.1.2.1 i = kind ∧ s.2.1.2.2.2.2.2 i = false ∧ nx (s.2.1.2.2.2.2.1 i) e = none then 1 else 0)) (s.1, (s.2.1.1, s.2.1.2.1, s.2.1.2.2.1, s.2.1.2.2.2.1, hp1 nx (s.2.1.2.2.2.2.1, s.2.1.2.2.2.2.2) i e), s.2.2) ph' → Q none ph') : px_Met G mX4_takeEvent (d + 1) 0 0 [.ref 88, .ref a, .int (nI i), .int (nI e)] ph Q := by
  obtain ⟨x, ⟨ob, kd, ow, la, st, br⟩, ⟨va, bn, bg⟩, ⟨t0, t1, t2, t3⟩⟩ := s
  have h0 := h
  obtain ⟨va', kd', ow', st', la', bg', f0, f1, f2, f3, h88, h89, ⟨h94, h95, h96, h97, h98, h99⟩, ⟨h90, h91, h92, h93⟩, v1, v2, v3, v4⟩ := h
  obtain ⟨w1, w2, w3, w4, w5⟩ := hw
  obtain ⟨⟨s1, s2, s3⟩, p, q, f, g, ⟨m1, m2, m3⟩, m4, m5, m6, m7, m8⟩ := hM
  have hi : i < ob := hi
  obtain ⟨a1, a2, a3, a4⟩ := v2 i hi
  obtain ⟨b1, b2, b3, b4⟩ := w3 i hi
  have hst : hp1 nx (st, br) i e = if br i then (st, br) else match nx (st i) e with
    | none => (st, va_up br i true)
    | some j => (va_up st i j, br) := rfl
  simp only at hQ
  refine px_start kX4_takeEvent (Nat.le_of_ble_eq_true rfl) ?_
  show px_W G _ _ _ _ _ 0 0 0 [some (.ref 88), some (.ref a), some (.int (nI i)), some (.int (nI e))] [] ph
  (repeat (first | (refine ⟨_, rfl, by omega, ?_⟩) | (refine px_st rfl rfl ?_; simp only [px_wp, px_at, px_set, px_set2, px_clr, px_ldi, px_ldl, px_lda, px_i1, px_i2, px_l1, px_l2, px_il, px_a1, px_r1, px_r2, px_ir, px_vir, px_g, px_v1, px_v2, px_gf, px_pf, px_ps, px_ar, px_nth, px_upd, px_zero, px_dfl, px_put_self, px_put_ne, px_sw, nI_add, pk_mul, true_and, and_true, Nat.reduceAdd, Nat.reduceLT, Nat.reduceEqDiff, List.length_cons, List.length_nil, true_or, or_true, List.set_set, ne_eq, not_false_eq_true, Fin.isValue, Fin.val_zero, Fin.val_one, Fin.val_two, reduceCtorEq, Option.map_some, List.length_set, Nat.zero_lt_succ, Option.toList_some, Option.toList_none, List.cons_append, List.nil_append, px_b_2, IA, LA, BA, ZA, QA, PT, DR, TL, MC, CD, CC, false_and, or_false, false_or, nar_b, nar_0, nar_1, nar_y])))
  refine px_cV rfl rfl kX4_isWatched rfl (c_W_isWatched (br := br i) (u := st i) (by omega) hk b1 (by omega) h88 h95 h97 a1 a4 ?_) (Nat.le_refl _) h88 rfl rfl rfl (Nat.le_of_ble_eq_true rfl) (Nat.zero_le _) (Nat.zero_le _)
  by_cases hkk : kd i = kind
  · have a5 := a4 hkk
    rw [decide_eq_true hkk]
    cases hbr : br i with
    | true =>
      (repeat (first | (refine px_st rfl rfl ?_; simp only [px_wp, px_at, px_set, px_set2, px_clr, px_ldi, px_ldl, px_lda, px_i1, px_i2, px_l1, px_l2, px_il, px_a1, px_r1, px_r2, px_ir, px_vir, px_g, px_v1, px_v2, px_gf, px_pf, px_ps, px_ar, px_nth, px_upd, px_zero, px_dfl, px_put_self, px_put_ne, px_sw, nI_add, pk_mul, true_and, and_true, Nat.reduceAdd, Nat.reduceLT, Nat.reduceEqDiff, List.length_cons, List.length_nil, true_or, or_true, List.set_set, ne_eq, not_false_eq_true, Fin.isValue, Fin.val_zero, Fin.val_one, Fin.val_two, reduceCtorEq, Option.map_some, List.length_set, Nat.zero_lt_succ, Option.toList_some, Option.toList_none, List.cons_append, List.nil_append, px_b_2, IA, LA, BA, ZA, QA, PT, DR, TL, MC, CD, CC, false_and, or_false, false_or, nar_b, nar_0, nar_1, nar_y]) | (refine ⟨_, rfl, by omega, ?_⟩) | (refine ⟨fun h => absurd h (nI_nlt (by omega) (by omega)), fun _ => ?_⟩) | (refine ⟨fun _ => ?_, fun h => absurd h (nI_nlt (by omega) (by omega))⟩) | (refine ⟨fun h => absurd (nI_lt (by omega) (by omega)) h, fun _ => ?_⟩) | (refine ⟨fun _ => ?_, fun h => absurd (nI_lt (by omega) (by omega)) h⟩) | (refine ⟨fun h => absurd ((nI_eq (by omega) (by omega)).mp h) (by omega), fun _ => ?_⟩) | (refine ⟨fun _ => ?_, fun h => absurd ((nI_eq (by omega) (by omega)).mp h) (by omega)⟩) | (refine ⟨fun h => absurd h (by decide), fun _ => ?_⟩) | (refine ⟨fun _ => ?_, fun h => absurd h (by decide)⟩) | (refine ⟨fun h => absurd rfl h, fun _ => ?_⟩) | (refine ⟨fun _ => ?_, fun h => absurd rfl h⟩)))
      refine px_return rfl rfl (Nat.le_refl _) (Nat.le_refl _) (hQ _ fr_id ?_)
      rw [if_neg (fun z => by rw [hbr] at z; cases z.2.1), hst, if_pos hbr]
      exact h0
    | false =>
      rw [hbr] at a5
      have a5 : st' i = nI (st i) := a5
      (repeat (first | (refine px_st rfl rfl ?_; simp only [px_wp, px_at, px_set, px_set2, px_clr, px_ldi, px_ldl, px_lda, px_i1, px_i2, px_l1, px_l2, px_il, px_a1, px_r1, px_r2, px_ir, px_vir, px_g, px_v1, px_v2, px_gf, px_pf, px_ps, px_ar, px_nth, px_upd, px_zero, px_dfl, px_put_self, px_put_ne, px_sw, nI_add, pk_mul, true_and, and_true, Nat.reduceAdd, Nat.reduceLT, Nat.reduceEqDiff, List.length_cons, List.length_nil, true_or, or_true, List.set_set, ne_eq, not_false_eq_true, Fin.isValue, Fin.val_zero, Fin.val_one, Fin.val_two, reduceCtorEq, Option.map_some, List.length_set, Nat.zero_lt_succ, Option.toList_some, Option.toList_none, List.cons_append, List.nil_append, px_b_2, IA, LA, BA, ZA, QA, PT, DR, TL, MC, CD, CC, false_and, or_false, false_or, nar_b, nar_0, nar_1, nar_y, h88, h97, a5]) | (refine ⟨_, rfl, by omega, ?_⟩) | (refine ⟨fun h => absurd h (nI_nlt (by omega) (by omega)), fun _ => ?_⟩) | (refine ⟨fun _ => ?_, fun h => absurd h (nI_nlt (by omega) (by omega))⟩) | (refine ⟨fun h => absurd (nI_lt (by omega) (by omega)) h, fun _ => ?_⟩) | (refine ⟨fun _ => ?_, fun h => absurd (nI_lt (by omega) (by omega)) h⟩) | (refine ⟨fun h => absurd ((nI_eq (by omega) (by omega)).mp h) (by omega), fun _ => ?_⟩) | (refine ⟨fun _ => ?_, fun h => absurd ((nI_eq (by omega) (by omega)).mp h) (by omega)⟩) | (refine ⟨fun h => absurd h (by decide), fun _ => ?_⟩) | (refine ⟨fun _ => ?_, fun h => absurd h (by decide)⟩) | (refine ⟨fun h => absurd rfl h, fun _ => ?_⟩) | (refine ⟨fun _ => ?_, fun h => absurd rfl h⟩)))
      refine px_cV rfl rfl kX6_leads rfl (c_M_leads m4 m5 b4 he ?_) (Nat.le_refl _) m4 rfl rfl rfl (Nat.le_of_ble_eq_true rfl) (Nat.zero_le _) (Nat.zero_le _)
      rw [m8 (st i) b4 e he]
      cases hx : nx (st i) e with
      | none =>
        have o1 : oI none = -2 := rfl
        rw [o1]
        have hu : upd st' i (-2) i = -2 := pk_us
        (repeat (first | (refine px_st rfl rfl ?_; simp only [px_wp, px_at, px_set, px_set2, px_clr, px_ldi, px_ldl, px_lda, px_i1, px_i2, px_l1, px_l2, px_il, px_a1, px_r1, px_r2, px_ir, px_vir, px_g, px_v1, px_v2, px_gf, px_pf, px_ps, px_ar, px_nth, px_upd, px_zero, px_dfl, px_put_self, px_put_ne, px_sw, nI_add, pk_mul, true_and, and_true, Nat.reduceAdd, Nat.reduceLT, Nat.reduceEqDiff, List.length_cons, List.length_nil, true_or, or_true, List.set_set, ne_eq, not_false_eq_true, Fin.isValue, Fin.val_zero, Fin.val_one, Fin.val_two, reduceCtorEq, Option.map_some, List.length_set, Nat.zero_lt_succ, Option.toList_some, Option.toList_none, List.cons_append, List.nil_append, px_b_2, IA, LA, BA, ZA, QA, PT, DR, TL, MC, CD, CC, false_and, or_false, false_or, nar_b, nar_0, nar_1, nar_y, h88, h97, hu]) | (refine ⟨_, rfl, by omega, ?_⟩) | (refine ⟨fun h => absurd h (nI_nlt (by omega) (by omega)), fun _ => ?_⟩) | (refine ⟨fun _ => ?_, fun h => absurd h (nI_nlt (by omega) (by omega))⟩) | (refine ⟨fun h => absurd (nI_lt (by omega) (by omega)) h, fun _ => ?_⟩) | (refine ⟨fun _ => ?_, fun h => absurd (nI_lt (by omega) (by omega)) h⟩) | (refine ⟨fun h => absurd ((nI_eq (by omega) (by omega)).mp h) (by omega), fun _ => ?_⟩) | (refine ⟨fun _ => ?_, fun h => absurd ((nI_eq (by omega) (by omega)).mp h) (by omega)⟩) | (refine ⟨fun h => absurd h (by decide), fun _ => ?_⟩) | (refine ⟨fun _ => ?_, fun h => absurd h (by decide)⟩) | (refine ⟨fun h => absurd rfl h, fun _ => ?_⟩) | (refine ⟨fun _ => ?_, fun h => absurd rfl h⟩)))
        refine px_return rfl rfl (Nat.le_refl _) (Nat.le_refl _) (hQ _ (fc_set (fc_set fr_id rfl) rfl) ?_)
        rw [if_pos ⟨hkk, hbr, hx⟩, hst, if_neg (by rw [hbr]; simp), hx]
        refine ⟨va', kd', ow', upd st' i (-2), la', bg', f0, f1, f2, f3, (px_put_ne (by decide)).trans (px_put_self.trans (by rw [h88]; rfl)), (px_put_ne (by decide)).trans ((px_put_ne (by decide)).trans h89), ⟨(px_put_ne (by decide)).trans ((px_put_ne (by decide)).trans h94), (px_put_ne (by decide)).trans ((px_put_ne (by decide)).trans h95), (px_put_ne (by decide)).trans ((px_put_ne (by decide)).trans h96), px_put_self.trans (by rw [px_put_ne (by decide), h97]; rfl), (px_put_ne (by decide)).trans ((px_put_ne (by decide)).trans h98), (px_put_ne (by decide)).trans ((px_put_ne (by decide)).trans h99)⟩, ⟨(px_put_ne (by decide)).trans ((px_put_ne (by decide)).trans h90), (px_put_ne (by decide)).trans ((px_put_ne (by decide)).trans h91), (px_put_ne (by decide)).trans ((px_put_ne (by decide)).trans h92), (px_put_ne (by decide)).trans ((px_put_ne (by decide)).trans h93)⟩, v1, fun j hj => ?_, v3, v4⟩
        obtain ⟨y1, y2, y3, y4⟩ := v2 j hj
        refine ⟨y1, y2, y3, fun hkj => ?_⟩
        by_cases hji : j = i
        · subst hji; rw [pk_us, va_up_s]; rfl
        · rw [va_up_n hji]; unfold upd; rw [if_neg hji]; exact y4 hkj
      | some j0 =>
        have hj0 := s3 (st i) b4 e he j0 hx
        have o1 : oI (some j0) = nI j0 := rfl
        rw [o1]
        have hne : ¬ nI j0 = -2 := nI_m2 (by omega)
        have hu : upd st' i (nI j0) i = nI j0 := pk_us
        (repeat (first | (refine ⟨fun _ => ?_, fun h => absurd h hne⟩) | (refine px_st rfl rfl ?_; simp only [px_wp, px_at, px_set, px_set2, px_clr, px_ldi, px_ldl, px_lda, px_i1, px_i2, px_l1, px_l2, px_il, px_a1, px_r1, px_r2, px_ir, px_vir, px_g, px_v1, px_v2, px_gf, px_pf, px_ps, px_ar, px_nth, px_upd, px_zero, px_dfl, px_put_self, px_put_ne, px_sw, nI_add, pk_mul, true_and, and_true, Nat.reduceAdd, Nat.reduceLT, Nat.reduceEqDiff, List.length_cons, List.length_nil, true_or, or_true, List.set_set, ne_eq, not_false_eq_true, Fin.isValue, Fin.val_zero, Fin.val_one, Fin.val_two, reduceCtorEq, Option.map_some, List.length_set, Nat.zero_lt_succ, Option.toList_some, Option.toList_none, List.cons_append, List.nil_append, px_b_2, IA, LA, BA, ZA, QA, PT, DR, TL, MC, CD, CC, false_and, or_false, false_or, nar_b, nar_0, nar_1, nar_y, h88, h97, hu]) | (refine ⟨_, rfl, by omega, ?_⟩) | (refine ⟨fun h => absurd h (nI_nlt (by omega) (by omega)), fun _ => ?_⟩) | (refine ⟨fun _ => ?_, fun h => absurd h (nI_nlt (by omega) (by omega))⟩) | (refine ⟨fun h => absurd (nI_lt (by omega) (by omega)) h, fun _ => ?_⟩) | (refine ⟨fun _ => ?_, fun h => absurd (nI_lt (by omega) (by omega)) h⟩) | (refine ⟨fun h => absurd ((nI_eq (by omega) (by omega)).mp h) (by omega), fun _ => ?_⟩) | (refine ⟨fun _ => ?_, fun h => absurd ((nI_eq (by omega) (by omega)).mp h) (by omega)⟩) | (refine ⟨fun h => absurd h (by decide), fun _ => ?_⟩) | (refine ⟨fun _ => ?_, fun h => absurd h (by decide)⟩) | (refine ⟨fun h => absurd rfl h, fun _ => ?_⟩) | (refine ⟨fun _ => ?_, fun h => absurd rfl h⟩)))
        refine px_return rfl rfl (Nat.le_refl _) (Nat.le_refl _) (hQ _ (fc_set fr_id rfl) ?_)
        rw [if_neg (fun z => by rw [hx] at z; cases z.2.2), hst, if_neg (by rw [hbr]; simp), hx]
        refine ⟨va', kd', ow', upd st' i (nI j0), la', bg', f0, f1, f2, f3, (px_put_ne (by decide)).trans h88, (px_put_ne (by decide)).trans h89, ⟨(px_put_ne (by decide)).trans h94, (px_put_ne (by decide)).trans h95, (px_put_ne (by decide)).trans h96, px_put_self.trans (by rw [h97]; rfl), (px_put_ne (by decide)).trans h98, (px_put_ne (by decide)).trans h99⟩, ⟨(px_put_ne (by decide)).trans h90, (px_put_ne (by decide)).trans h91, (px_put_ne (by decide)).trans h92, (px_put_ne (by decide)).trans h93⟩, v1, fun j hj => ?_, v3, v4⟩
        obtain ⟨y1, y2, y3, y4⟩ := v2 j hj
        refine ⟨y1, y2, y3, fun hkj => ?_⟩
        by_cases hji : j = i
        · subst hji; rw [pk_us, va_up_s, hbr]; rfl
        · rw [va_up_n hji]; unfold upd; rw [if_neg hji]; exact y4 hkj
  · rw [decide_eq_false hkk]
    (repeat (first | (refine px_st rfl rfl ?_; simp only [px_wp, px_at, px_set, px_set2, px_clr, px_ldi, px_ldl, px_lda, px_i1, px_i2, px_l1, px_l2, px_il, px_a1, px_r1, px_r2, px_ir, px_vir, px_g, px_v1, px_v2, px_gf, px_pf, px_ps, px_ar, px_nth, px_upd, px_zero, px_dfl, px_put_self, px_put_ne, px_sw, nI_add, pk_mul, true_and, and_true, Nat.reduceAdd, Nat.reduceLT, Nat.reduceEqDiff, List.length_cons, List.length_nil, true_or, or_true, List.set_set, ne_eq, not_false_eq_true, Fin.isValue, Fin.val_zero, Fin.val_one, Fin.val_two, reduceCtorEq, Option.map_some, List.length_set, Nat.zero_lt_succ, Option.toList_some, Option.toList_none, List.cons_append, List.nil_append, px_b_2, IA, LA, BA, ZA, QA, PT, DR, TL, MC, CD, CC, false_and, or_false, false_or, nar_b, nar_0, nar_1, nar_y]) | (refine ⟨_, rfl, by omega, ?_⟩) | (refine ⟨fun h => absurd h (nI_nlt (by omega) (by omega)), fun _ => ?_⟩) | (refine ⟨fun _ => ?_, fun h => absurd h (nI_nlt (by omega) (by omega))⟩) | (refine ⟨fun h => absurd (nI_lt (by omega) (by omega)) h, fun _ => ?_⟩) | (refine ⟨fun _ => ?_, fun h => absurd (nI_lt (by omega) (by omega)) h⟩) | (refine ⟨fun h => absurd ((nI_eq (by omega) (by omega)).mp h) (by omega), fun _ => ?_⟩) | (refine ⟨fun _ => ?_, fun h => absurd ((nI_eq (by omega) (by omega)).mp h) (by omega)⟩) | (refine ⟨fun h => absurd h (by decide), fun _ => ?_⟩) | (refine ⟨fun _ => ?_, fun h => absurd h (by decide)⟩) | (refine ⟨fun h => absurd rfl h, fun _ => ?_⟩) | (refine ⟨fun _ => ?_, fun h => absurd rfl h⟩)))
    refine px_return rfl rfl (Nat.le_refl _) (Nat.le_refl _) (hQ _ fr_id ?_)
    rw [if_neg (fun z => hkk z.1)]
    refine ⟨va', kd', ow', st', la', bg', f0, f1, f2, f3, h88, h89, ⟨h94, h95, h96, h97, h98, h99⟩, ⟨h90, h91, h92, h93⟩, v1, fun j hj => ?_, v3, v4⟩
    obtain ⟨y1, y2, y3, y4⟩ := v2 j hj
    refine ⟨y1, y2, y3, fun hkj => ?_⟩
    have hji : ¬ j = i := fun z => hkk (by rw [← z]; exact hkj)
    rw [y4 hkj]
    show _ = if (hp1 nx (st, br) i e).2 j = true then -2 else nI ((hp1 nx (st, br) i e).1 j)
    rw [(hp1_ne hji).1, (hp1_ne hji).2]
end DRW
