/-! a shape as a number: digits, and what changes one -/
def dg (n j l : Nat) : Nat := n / 2 ^ j % 2 ^ l
def rp (n i k w : Nat) : Nat := n - n / 2 ^ i % 2 ^ k * 2 ^ i + w * 2 ^ i
theorem rp_eq (n i k w : Nat) : rp n i k w = 2 ^ (i + k) * (n / 2 ^ (i + k)) + (2 ^ i * w + n % 2 ^ i) := by
  unfold rp
  have h1 := Nat.div_add_mod n (2 ^ i)
  have h2 := Nat.div_add_mod (n / 2 ^ i) (2 ^ k)
  have h3 : n / 2 ^ (i + k) = n / 2 ^ i / 2 ^ k := by rw [Nat.pow_add, Nat.div_div_eq_div_mul]
  rw [h3, Nat.pow_add]
  generalize n / 2 ^ i / 2 ^ k = Q at h2 ⊢
  generalize n / 2 ^ i % 2 ^ k = R at h2 ⊢
  generalize n % 2 ^ i = M at h1 ⊢
  rw [← h2, Nat.mul_add, ← Nat.mul_assoc] at h1
  rw [Nat.mul_comm R, Nat.mul_comm w]
  omega
theorem rp_lo {i k w r : Nat} (hr : r < 2 ^ i) (hw : w < 2 ^ k) : 2 ^ i * w + r < 2 ^ (i + k) := by
  rw [Nat.pow_add]
  have h1 : 2 ^ i * (w + 1) ≤ 2 ^ i * 2 ^ k := Nat.mul_le_mul_left _ hw
  rw [Nat.mul_add] at h1
  omega
theorem md_lt (n i : Nat) : n % 2 ^ i < 2 ^ i := Nat.mod_lt _ (Nat.two_pow_pos i)
theorem rp_top (n i k : Nat) {w : Nat} (hw : w < 2 ^ k) : rp n i k w / 2 ^ (i + k) = n / 2 ^ (i + k) := by
  rw [rp_eq, Nat.mul_add_div (Nat.two_pow_pos _), Nat.div_eq_of_lt (rp_lo (md_lt n i) hw)]
  rfl
theorem rp_hi {n i k w j : Nat} (hw : w < 2 ^ k) (h : i + k ≤ j) : rp n i k w / 2 ^ j = n / 2 ^ j := by
  obtain ⟨t, rfl⟩ : ∃ t, j = i + k + t := ⟨j - (i + k), by omega⟩
  rw [Nat.pow_add 2 (i + k) t, ← Nat.div_div_eq_div_mul, rp_top n i k hw, Nat.div_div_eq_div_mul]
theorem rp_mod (n i k w : Nat) : rp n i k w % 2 ^ i = n % 2 ^ i := by
  rw [rp_eq, Nat.pow_add, Nat.mul_assoc, ← Nat.add_assoc, ← Nat.mul_add, Nat.mul_add_mod, Nat.mod_mod]
theorem dg_mod {n m j l i : Nat} (h : n % 2 ^ i = m % 2 ^ i) (hj : j + l ≤ i) : dg n j l = dg m j l := by
  have key : ∀ x, dg x j l = x % 2 ^ i % 2 ^ (j + l) / 2 ^ j := fun x => by
    rw [Nat.mod_mod_of_dvd _ (Nat.pow_dvd_pow 2 hj), Nat.pow_add, Nat.mod_mul_right_div_self]
    rfl
  rw [key, key, h]
theorem dg_rp {n i k w j l : Nat} (hw : w < 2 ^ k) (h : j + l ≤ i ∨ i + k ≤ j) : dg (rp n i k w) j l = dg n j l := by
  rcases h with h | h
  · exact dg_mod (rp_mod n i k w) h
  · unfold dg; rw [rp_hi hw h]
theorem dg_at {n i k w : Nat} (hw : w < 2 ^ k) : dg (rp n i k w) i k = w := by
  unfold dg
  rw [rp_eq, Nat.pow_add, Nat.mul_assoc, ← Nat.add_assoc, ← Nat.mul_add, Nat.mul_add_div (Nat.two_pow_pos i), Nat.div_eq_of_lt (md_lt n i), Nat.add_zero, Nat.mul_add_mod, Nat.mod_eq_of_lt hw]
theorem dg_lt (n j l : Nat) : dg n j l < 2 ^ l := md_lt _ l
theorem dg_step (n j l : Nat) : n / 2 ^ j = 2 ^ l * (n / 2 ^ (j + l)) + dg n j l := by
  unfold dg
  rw [Nat.pow_add, ← Nat.div_div_eq_div_mul, Nat.div_add_mod]
theorem rp_b {n i k w m : Nat} (hn : n < 2 ^ m) (hw : w < 2 ^ k) (h : i + k ≤ m) : rp n i k w < 2 ^ m := by
  have h1 : rp n i k w / 2 ^ m = n / 2 ^ m := rp_hi hw h
  rw [Nat.div_eq_of_lt hn] at h1
  rcases Nat.lt_or_ge (rp n i k w) (2 ^ m) with q | q
  · exact q
  · have := Nat.div_pos q (Nat.two_pow_pos m)
    omega
theorem rp_id {n i k w : Nat} (h : dg n i k = w) : rp n i k w = n := by
  have h1 : n / 2 ^ i % 2 ^ k = w := h
  have h2 : n / 2 ^ i % 2 ^ k * 2 ^ i ≤ n := Nat.le_trans (Nat.mul_le_mul_right _ (Nat.mod_le _ _)) (Nat.div_mul_le_self n _)
  unfold rp
  rw [h1] at h2 ⊢
  omega
/-- what two shapes have in common -/
theorem dg_ext {n m : Nat} (hn : n < 2 ^ 31) (hm : m < 2 ^ 31) (h0 : ∀ v, v < 6 → dg n (2 * v) 2 = dg m (2 * v) 2) (h1 : ∀ v, v < 5 → dg n (12 + v) 1 = dg m (12 + v) 1) (h2 : dg n 17 5 = dg m 17 5) (h3 : dg n 22 9 = dg m 22 9) : n = m := by
  have s : ∀ j l, n / 2 ^ (j + l) = m / 2 ^ (j + l) → dg n j l = dg m j l → n / 2 ^ j = m / 2 ^ j := fun j l a b => by rw [dg_step n j l, dg_step m j l, a, b]
  have e31 : n / 2 ^ (22 + 9) = m / 2 ^ (22 + 9) := by rw [Nat.div_eq_of_lt hn, Nat.div_eq_of_lt hm]
  have e22 := s 22 9 e31 h3
  have e17 := s 17 5 e22 h2
  have e16 := s 16 1 e17 (h1 4 (by omega))
  have e15 := s 15 1 e16 (h1 3 (by omega))
  have e14 := s 14 1 e15 (h1 2 (by omega))
  have e13 := s 13 1 e14 (h1 1 (by omega))
  have e12 := s 12 1 e13 (h1 0 (by omega))
  have e10 := s 10 2 e12 (h0 5 (by omega))
  have e8 := s 8 2 e10 (h0 4 (by omega))
  have e6 := s 6 2 e8 (h0 3 (by omega))
  have e4 := s 4 2 e6 (h0 2 (by omega))
  have e2 := s 2 2 e4 (h0 1 (by omega))
  have e0 := s 0 2 e2 (h0 0 (by omega))
  rw [Nat.pow_zero, Nat.div_one, Nat.div_one] at e0
  exact e0
/-! the same on the machine's ints -/
theorem nx_or (a b : Nat) : nI a ||| nI b = nI (a ||| b) := by
  apply Int32.toBitVec_inj.1
  show BitVec.ofNat 32 a ||| BitVec.ofNat 32 b = BitVec.ofNat 32 (a ||| b)
  apply BitVec.eq_of_getLsbD_eq
  intro i hi
  simp [hi]
theorem bt_n (n j : Nat) : bt (nI n) j = (decide (j < 32) && n.testBit j) := by
  show (BitVec.ofNat 32 n).getLsbD j = _
  rw [BitVec.getLsbD_ofNat]
theorem rp0_bit (n i k j : Nat) : (rp n i k 0).testBit j = (n.testBit j && !(decide (i ≤ j) && decide (j < i + k))) := by
  rw [rp_eq, Nat.mul_zero, Nat.zero_add, Nat.testBit_two_pow_mul_add _ (Nat.lt_of_lt_of_le (md_lt n i) (Nat.pow_le_pow_right (by decide) (by omega)))]
  by_cases h : j < i + k
  · rw [if_pos h, Nat.testBit_mod_two_pow]
    by_cases h2 : j < i
    · simp [h2, Nat.not_le.mpr h2]
    · simp [h2, h, Nat.not_lt.mp h2]
  · rw [if_neg h, Nat.testBit_div_two_pow, show j - (i + k) + (i + k) = j by omega]
    simp [h]
theorem i_clr {n i k : Nat} {m : Int32} (hm : ∀ j, j < 32 → bt m j = !(decide (i ≤ j) && decide (j < i + k))) : nI n &&& m = nI (rp n i k 0) := by
  apply b_ext
  intro j hj
  rw [b_and, hm j hj, bt_n, bt_n, rp0_bit, Bool.and_assoc]
theorem rp_or (n i k : Nat) {w : Nat} (hw : w < 2 ^ k) : rp n i k 0 ||| w * 2 ^ i = rp n i k w := by
  have h1 : 2 ^ i * w + n % 2 ^ i = 2 ^ i * w ||| n % 2 ^ i := Nat.two_pow_add_eq_or_of_lt (md_lt n i) w
  have h2 : 2 ^ (i + k) * (n / 2 ^ (i + k)) + n % 2 ^ i = 2 ^ (i + k) * (n / 2 ^ (i + k)) ||| n % 2 ^ i := Nat.two_pow_add_eq_or_of_lt (Nat.lt_of_lt_of_le (md_lt n i) (Nat.pow_le_pow_right (by decide) (by omega))) _
  rw [rp_eq, rp_eq, Nat.mul_zero, Nat.zero_add, h2, Nat.two_pow_add_eq_or_of_lt (rp_lo (md_lt n i) hw), h1, Nat.or_assoc, Nat.mul_comm w, Nat.or_comm (n % 2 ^ i)]
theorem i_ins {n i k w : Nat} (hw : w < 2 ^ k) : nI (rp n i k 0) ||| nI (w * 2 ^ i) = nI (rp n i k w) := by rw [nx_or, rp_or n i k hw]
theorem rp_rp {n i k a w : Nat} (ha : a < 2 ^ k) : rp (rp n i k a) i k w = rp n i k w := by
  rw [rp_eq (rp n i k a) i k w, rp_top n i k ha, rp_mod, ← rp_eq]
theorem or_bit (n j : Nat) : n ||| 1 * 2 ^ j = rp n j 1 1 := by
  have h1 : dg n j 1 = 0 ∨ dg n j 1 = 1 := by
    have := dg_lt n j 1
    omega
  rcases h1 with h | h
  · have e := rp_or n j 1 (w := 1) (by decide)
    rw [rp_id h] at e
    exact e
  · have e := rp_or n j 1 (w := 1) (by decide)
    rw [rp_id h] at e ⊢
    rw [← e, Nat.or_assoc, Nat.or_self]
theorem i_or1 {n j : Nat} : nI n ||| nI (1 * 2 ^ j) = nI (rp n j 1 1) := by rw [nx_or, or_bit]
theorem i_dg {n i k : Nat} (hn : n < 2 ^ 32) {m : Int32} (hm : m.toBitVec.toNat = 2 ^ k - 1) : nI (n / 2 ^ i) &&& m = nI (dg n i k) := pk_andN (Nat.lt_of_le_of_lt (Nat.div_le_self _ _) hn) k hm
theorem sh_l : ∀ s, s < 32 → ((nI s &&& 31).toBitVec.smod 32).toNat = s := s_l
theorem i_ush {n s : Nat} (hn : n < 2 ^ 32) (hs : s < 32) : U8 (nI n) s = nI (n / 2 ^ s) := pk_ushrN hn (nI s) s (sh_32 s hs)
theorem i_shl {w s : Nat} (hs : s < 32) (h : w * 2 ^ s < 2 ^ 32) : nI w <<< (nI s &&& 31) = nI (w * 2 ^ s) := pk_shlN _ s (s_l s hs) h
/-! the shape's parts -/
abbrev sHd (n v : Nat) : Nat := dg n (2 * v) 2
abbrev sBg (n w : Nat) : Nat := dg n (11 + w) 1
abbrev sEx (n w : Nat) : Nat := dg n (14 + w) 1
abbrev sSt (n : Nat) : Nat := dg n 17 5
abbrev sPl (n : Nat) : Nat := dg n 22 9
abbrev sHo (n v w : Nat) : Nat := rp n (2 * v) 2 w
abbrev sPut (n w : Nat) : Nat := if w = 0 then n else rp n (11 + w) 1 1
abbrev sEmp (n : Nat) : Nat := rp n 12 3 0
abbrev sBr (n v w : Nat) : Nat := sHo (rp n (14 + w) 1 1) v w
abbrev sEn (n s : Nat) : Nat := rp n 17 5 s
abbrev sMv (n p : Nat) : Nat := rp n 22 9 p
theorem sHd_lt (n v : Nat) : sHd n v < 4 := dg_lt n (2 * v) 2
theorem sBg_lt (n w : Nat) : sBg n w < 2 := dg_lt n (11 + w) 1
theorem sEx_lt (n w : Nat) : sEx n w < 2 := dg_lt n (14 + w) 1
theorem sSt_lt (n : Nat) : sSt n < 32 := dg_lt n 17 5
theorem sPl_lt (n : Nat) : sPl n < 512 := dg_lt n 22 9
/-- what one op makes of a shape: the shapes behind it as the class has them, whether it breaks -/
def xEnd (en : Nat → Bool) (n : Nat) : Bool := decide (sEx n 1 = 1) && !en (sSt n)
def xMk (z kd : Bool) (ow ah v : Nat) : List Nat := sHo ah v 3 :: (if sEx ah 1 = 1 then [] else (if z = true ∧ sEx ah 2 = 0 then [sBr ah v 2] else []) ++ if kd = true ∧ (z = false ∨ ow = if sEx ah 2 = 1 then 2 else 0) then [sBr ah v 1] else [])
def xEv (nx : Nat → Nat → Option Nat) (ah e : Nat) : List Nat × Bool := match nx (sSt ah) e with
  | none => ([], true)
  | some t => ([sEn ah t], false)
def xCall (nx : Nat → Nat → Option Nat) (en : Nat → Bool) (ah v b : Nat) : List Nat × Bool := if sHd ah v = 0 then ([], xEnd en ah) else if sHd ah v = 1 then xEv nx ah b else if sHd ah v = 2 ∧ sEx ah 1 = 1 then xEv nx ah (12 + b) else ([ah], false)
def xGet (ah v : Nat) : List Nat := (if dg ah 12 3 = 0 then [sHo ah v 0] else []) ++ ((if sBg ah 1 = 1 then [sHo ah v 1] else []) ++ ((if sBg ah 2 = 1 then [sHo ah v 2] else []) ++ if sBg ah 3 = 1 then [sHo ah v 3] else []))
def xOp (nx : Nat → Nat → Option Nat) (en : Nat → Bool) (z : Bool) (kind o a b c n : Nat) : List Nat × Bool := match o with
  | 0 => (xMk z (decide (b = kind)) 0 (sMv n (sPl n + 1)) a, false)
  | 1 => if sHd (sMv n (sPl n + 1)) c = 0 then ([], xEnd en (sMv n (sPl n + 1))) else (xMk z (decide (b = kind)) (sHd (sMv n (sPl n + 1)) c) (sMv n (sPl n + 1)) a, false)
  | 2 => ([sHo (sMv n (sPl n + 1)) a (sHd (sMv n (sPl n + 1)) b)], false)
  | 3 => ([sHo (sMv n (sPl n + 1)) a 0], false)
  | 4 => xCall nx en (sMv n (sPl n + 1)) a b
  | 5 => ([sMv n (sPl n + 1), sMv n a], false)
  | 6 => ([sMv n a], false)
  | 7 => ([if sHd n a = 0 then sMv n b else sMv n (sPl n + 1)], false)
  | 8 => ([sPut (sMv n (sPl n + 1)) (sHd (sMv n (sPl n + 1)) a)], false)
  | 9 => (xGet (sMv n (sPl n + 1)) a, false)
  | 10 => ([sEmp (sMv n (sPl n + 1))], false)
  | _ => ([], xEnd en n)
def xS (nx : Nat → Nat → Option Nat) (en : Nat → Bool) (z : Bool) (kind cn : Nat) (f A B C : Nat → Int32) (n : Nat) : List Nat × Bool := if sPl n < cn then xOp nx en z kind (f (sPl n)).toNatClampNeg (A (sPl n)).toNatClampNeg (B (sPl n)).toNatClampNeg (C (sPl n)).toNatClampNeg n else ([], xEnd en n)
/-- what holds of all shapes that are met -/
def okS (sn : Nat) (z : Bool) (n : Nat) : Prop := n < 2 ^ 28 ∧ dg n 22 9 ≤ 32 ∧ dg n 17 5 < sn ∧ (dg n 15 1 = 0 → dg n 17 5 = 0 ∧ dg n 12 1 = 0 ∧ ∀ v, v < 6 → ¬ dg n (2 * v) 2 = 1) ∧ (dg n 16 1 = 0 → dg n 13 1 = 0 ∧ ∀ v, v < 6 → ¬ dg n (2 * v) 2 = 2) ∧ (z = false → dg n 16 1 = 0)
