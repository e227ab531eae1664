/-! what holds of all shapes that are met -/
section WSS
variable {sn : Nat} {z : Bool} {n v w p : Nat}
theorem dg_0 (j l : Nat) : dg 0 j l = 0 := by
  unfold dg
  rw [Nat.zero_div, Nat.zero_mod]
theorem okS_0 (h : 1 ≤ sn) : okS sn z 0 := by
  refine ⟨by decide, by rw [dg_0]; omega, by rw [dg_0]; omega, fun _ => ⟨dg_0 _ _, dg_0 _ _, fun v _ => ?_⟩, fun _ => ⟨dg_0 _ _, fun v _ => ?_⟩, fun _ => dg_0 _ _⟩
  · rw [dg_0]; omega
  · rw [dg_0]; omega
theorem hd_ho {u : Nat} (hw : w < 4) : dg (sHo n v w) (2 * u) 2 = if u = v then w else dg n (2 * u) 2 := by
  by_cases e : u = v
  · subst e; rw [if_pos rfl]; exact dg_at hw
  · rw [if_neg e]; exact dg_rp hw (by omega)
theorem okS_mv (h : okS sn z n) (hp : p ≤ 32) : okS sn z (sMv n p) := by
  obtain ⟨h1, h2, h3, h4, h5, h6⟩ := h
  have a : ∀ j l, j + l ≤ 22 → dg (sMv n p) j l = dg n j l := fun j l hj => dg_rp (by omega) (Or.inl hj)
  refine ⟨sMv_b (by omega) (by omega), by rw [dg_at (by omega)]; exact hp, by rw [a 17 5 (by omega)]; exact h3, fun q => ?_, fun q => ?_, fun q => by rw [a 16 1 (by omega)]; exact h6 q⟩
  · rw [a 15 1 (by omega)] at q
    obtain ⟨q1, q2, q3⟩ := h4 q
    exact ⟨by rw [a 17 5 (by omega)]; exact q1, by rw [a 12 1 (by omega)]; exact q2, fun v hv => by rw [a (2 * v) 2 (by omega)]; exact q3 v hv⟩
  · rw [a 16 1 (by omega)] at q
    obtain ⟨q2, q3⟩ := h5 q
    exact ⟨by rw [a 13 1 (by omega)]; exact q2, fun v hv => by rw [a (2 * v) 2 (by omega)]; exact q3 v hv⟩
theorem okS_ho (h : okS sn z n) (hv : v < 6) (hw : w < 4) (w1 : w = 1 → dg n 15 1 = 1) (w2 : w = 2 → dg n 16 1 = 1) : okS sn z (sHo n v w) := by
  obtain ⟨h1, h2, h3, h4, h5, h6⟩ := h
  have a : ∀ j l, 12 ≤ j → dg (sHo n v w) j l = dg n j l := fun j l hj => dg_rp hw (Or.inr (by omega))
  refine ⟨rp_b h1 hw (by omega), by rw [a 22 9 (by omega)]; exact h2, by rw [a 17 5 (by omega)]; exact h3, fun q => ?_, fun q => ?_, fun q => by rw [a 16 1 (by omega)]; exact h6 q⟩
  · rw [a 15 1 (by omega)] at q
    obtain ⟨q1, q2, q3⟩ := h4 q
    refine ⟨by rw [a 17 5 (by omega)]; exact q1, by rw [a 12 1 (by omega)]; exact q2, fun u hu => ?_⟩
    rw [hd_ho hw]
    split
    · intro e
      have := w1 e
      omega
    · exact q3 u hu
  · rw [a 16 1 (by omega)] at q
    obtain ⟨q2, q3⟩ := h5 q
    refine ⟨by rw [a 13 1 (by omega)]; exact q2, fun u hu => ?_⟩
    rw [hd_ho hw]
    split
    · intro e
      have := w2 e
      omega
    · exact q3 u hu
theorem okS_put (h : okS sn z n) (hw : w < 4) (w0 : ¬ w = 0) (w1 : w = 1 → dg n 15 1 = 1) (w2 : w = 2 → dg n 16 1 = 1) : okS sn z (rp n (11 + w) 1 1) := by
  obtain ⟨h1, h2, h3, h4, h5, h6⟩ := h
  have a : ∀ j l, 15 ≤ j ∨ j + l ≤ 12 → dg (rp n (11 + w) 1 1) j l = dg n j l := fun j l hj => dg_rp (by omega) (by omega)
  refine ⟨rp_b h1 (by omega) (by omega), by rw [a 22 9 (by omega)]; exact h2, by rw [a 17 5 (by omega)]; exact h3, fun q => ?_, fun q => ?_, fun q => by rw [a 16 1 (by omega)]; exact h6 q⟩
  · rw [a 15 1 (by omega)] at q
    obtain ⟨q1, q2, q3⟩ := h4 q
    have hw1 : ¬ w = 1 := fun e => by
      have := w1 e
      omega
    exact ⟨by rw [a 17 5 (by omega)]; exact q1, by rw [dg_rp (by omega) (by omega)]; exact q2, fun v hv => by rw [a (2 * v) 2 (by omega)]; exact q3 v hv⟩
  · rw [a 16 1 (by omega)] at q
    obtain ⟨q2, q3⟩ := h5 q
    have hw2 : ¬ w = 2 := fun e => by
      have := w2 e
      omega
    exact ⟨by rw [dg_rp (by omega) (by omega)]; exact q2, fun v hv => by rw [a (2 * v) 2 (by omega)]; exact q3 v hv⟩
theorem emp_at {w : Nat} (h0 : 1 ≤ w) (hw : w < 4) : sBg (sEmp n) w = 0 := by
  have h1 : dg (sEmp n) 12 3 = 0 := dg_at (by omega)
  have h2 := dg_bag (sEmp n)
  rcases (show w = 1 ∨ w = 2 ∨ w = 3 by omega) with rfl | rfl | rfl
  · show dg (sEmp n) 12 1 = 0
    omega
  · show dg (sEmp n) 13 1 = 0
    omega
  · show dg (sEmp n) 14 1 = 0
    omega
theorem okS_emp (h : okS sn z n) : okS sn z (sEmp n) := by
  obtain ⟨h1, h2, h3, h4, h5, h6⟩ := h
  have a : ∀ j l, 15 ≤ j ∨ j + l ≤ 12 → dg (sEmp n) j l = dg n j l := fun j l hj => dg_rp (by omega) (by omega)
  refine ⟨rp_b h1 (by omega) (by omega), by rw [a 22 9 (by omega)]; exact h2, by rw [a 17 5 (by omega)]; exact h3, fun q => ?_, fun q => ?_, fun q => by rw [a 16 1 (by omega)]; exact h6 q⟩
  · rw [a 15 1 (by omega)] at q
    obtain ⟨q1, q2, q3⟩ := h4 q
    exact ⟨by rw [a 17 5 (by omega)]; exact q1, emp_at (w := 1) (by omega) (by omega), fun v hv => by rw [a (2 * v) 2 (by omega)]; exact q3 v hv⟩
  · rw [a 16 1 (by omega)] at q
    obtain ⟨q2, q3⟩ := h5 q
    exact ⟨emp_at (w := 2) (by omega) (by omega), fun v hv => by rw [a (2 * v) 2 (by omega)]; exact q3 v hv⟩
theorem okS_en (h : okS sn z n) (hp : p < sn) (hsn : sn ≤ 24) (h15 : dg n 15 1 = 1) : okS sn z (sEn n p) := by
  obtain ⟨h1, h2, h3, h4, h5, h6⟩ := h
  have a : ∀ j l, 22 ≤ j ∨ j + l ≤ 17 → dg (sEn n p) j l = dg n j l := fun j l hj => dg_rp (by omega) (by omega)
  refine ⟨rp_b h1 (by omega) (by omega), by rw [a 22 9 (by omega)]; exact h2, by rw [dg_at (by omega)]; exact hp, fun q => ?_, fun q => ?_, fun q => by rw [a 16 1 (by omega)]; exact h6 q⟩
  · rw [a 15 1 (by omega)] at q
    have h15 : dg n 15 1 = 1 := h15
    omega
  · rw [a 16 1 (by omega)] at q
    obtain ⟨q2, q3⟩ := h5 q
    exact ⟨by rw [a 13 1 (by omega)]; exact q2, fun v hv => by rw [a (2 * v) 2 (by omega)]; exact q3 v hv⟩
theorem okS_ex (h : okS sn z n) (hw : w = 1 ∨ (w = 2 ∧ z = true)) : okS sn z (rp n (14 + w) 1 1) ∧ dg (rp n (14 + w) 1 1) (14 + w) 1 = 1 := by
  obtain ⟨h1, h2, h3, h4, h5, h6⟩ := h
  have hw3 : 1 ≤ w ∧ w ≤ 2 := by
    rcases hw with rfl | ⟨rfl, -⟩ <;> omega
  have a : ∀ j l, 17 ≤ j ∨ j + l ≤ 15 → dg (rp n (14 + w) 1 1) j l = dg n j l := fun j l hj => dg_rp (by omega) (by omega)
  have hat : dg (rp n (14 + w) 1 1) (14 + w) 1 = 1 := dg_at (by omega)
  refine ⟨⟨rp_b h1 (by omega) (by omega), by rw [a 22 9 (by omega)]; exact h2, by rw [a 17 5 (by omega)]; exact h3, fun q => ?_, fun q => ?_, fun q => ?_⟩, hat⟩
  · have hw1 : ¬ w = 1 := fun e => by
      subst e
      have q : dg (rp n 15 1 1) 15 1 = 0 := q
      have hat : dg (rp n 15 1 1) 15 1 = 1 := hat
      omega
    rw [dg_rp (by omega) (by omega)] at q
    obtain ⟨q1, q2, q3⟩ := h4 q
    exact ⟨by rw [a 17 5 (by omega)]; exact q1, by rw [a 12 1 (by omega)]; exact q2, fun v hv => by rw [a (2 * v) 2 (by omega)]; exact q3 v hv⟩
  · have hw2 : ¬ w = 2 := fun e => by
      subst e
      have q : dg (rp n 16 1 1) 16 1 = 0 := q
      have hat : dg (rp n 16 1 1) 16 1 = 1 := hat
      omega
    rw [dg_rp (by omega) (by omega)] at q
    obtain ⟨q2, q3⟩ := h5 q
    exact ⟨by rw [a 13 1 (by omega)]; exact q2, fun v hv => by rw [a (2 * v) 2 (by omega)]; exact q3 v hv⟩
  · rcases hw with rfl | ⟨rfl, hz⟩
    · rw [dg_rp (by omega) (by omega)]; exact h6 q
    · rw [hz] at q; cases q
theorem okS_br (h : okS sn z n) (hv : v < 6) (hw : w = 1 ∨ (w = 2 ∧ z = true)) : okS sn z (sBr n v w) := by
  obtain ⟨h1, h2⟩ := okS_ex h hw
  refine okS_ho h1 hv (by omega) (fun e => ?_) (fun e => ?_)
  · subst e; exact h2
  · subst e; exact h2
theorem okS_h1 (h : okS sn z n) (hv : v < 6) (e : dg n (2 * v) 2 = 1) : dg n 15 1 = 1 := by
  have := dg_lt n 15 1
  rcases (show dg n 15 1 = 0 ∨ dg n 15 1 = 1 by omega) with q | q
  · exact absurd e ((h.2.2.2.1 q).2.2 v hv)
  · exact q
theorem okS_h2 (h : okS sn z n) (hv : v < 6) (e : dg n (2 * v) 2 = 2) : dg n 16 1 = 1 := by
  have := dg_lt n 16 1
  rcases (show dg n 16 1 = 0 ∨ dg n 16 1 = 1 by omega) with q | q
  · exact absurd e ((h.2.2.2.2.1 q).2 v hv)
  · exact q
theorem okS_b1 (h : okS sn z n) (e : dg n 12 1 = 1) : dg n 15 1 = 1 := by
  have := dg_lt n 15 1
  rcases (show dg n 15 1 = 0 ∨ dg n 15 1 = 1 by omega) with q | q
  · have := (h.2.2.2.1 q).2.1
    omega
  · exact q
theorem okS_b2 (h : okS sn z n) (e : dg n 13 1 = 1) : dg n 16 1 = 1 := by
  have := dg_lt n 16 1
  rcases (show dg n 16 1 = 0 ∨ dg n 16 1 = 1 by omega) with q | q
  · have := (h.2.2.2.2.1 q).1
    omega
  · exact q
theorem if_mem {c : Prop} [Decidable c] {x y : Nat} (h : x ∈ (if c then [y] else [])) : c ∧ x = y := by
  by_cases hc : c
  · rw [if_pos hc] at h
    exact ⟨hc, List.mem_singleton.mp h⟩
  · rw [if_neg hc] at h
    cases h
theorem okS_mk {kd : Bool} {ow : Nat} (h : okS sn z n) (hv : v < 6) : ∀ x, x ∈ xMk z kd ow n v → okS sn z x := by
  intro x hx
  unfold xMk at hx
  rcases List.mem_cons.mp hx with rfl | hx
  · exact okS_ho h hv (by omega) (fun e => by cases e) (fun e => by cases e)
  · by_cases h1 : sEx n 1 = 1
    · rw [if_pos h1] at hx
      cases hx
    · rw [if_neg h1] at hx
      rcases List.mem_append.mp hx with hx | hx
      · obtain ⟨q, rfl⟩ := if_mem hx
        exact okS_br h hv (Or.inr ⟨rfl, q.1⟩)
      · obtain ⟨-, rfl⟩ := if_mem hx
        exact okS_br h hv (Or.inl rfl)
theorem okS_get (h : okS sn z n) (hv : v < 6) : ∀ x, x ∈ xGet n v → okS sn z x := by
  intro x hx
  unfold xGet at hx
  rcases List.mem_append.mp hx with hx | hx
  · obtain ⟨-, rfl⟩ := if_mem hx
    exact okS_ho h hv (by omega) (fun e => by cases e) (fun e => by cases e)
  · rcases List.mem_append.mp hx with hx | hx
    · obtain ⟨q, rfl⟩ := if_mem hx
      exact okS_ho h hv (by omega) (fun _ => okS_b1 h q) (fun e => by cases e)
    · rcases List.mem_append.mp hx with hx | hx
      · obtain ⟨q, rfl⟩ := if_mem hx
        exact okS_ho h hv (by omega) (fun e => by cases e) (fun _ => okS_b2 h q)
      · obtain ⟨-, rfl⟩ := if_mem hx
        exact okS_ho h hv (by omega) (fun e => by cases e) (fun e => by cases e)
theorem if_len {c : Prop} [Decidable c] {y : Nat} : (if c then [y] else []).length ≤ 1 := by
  by_cases h : c
  · rw [if_pos h]; simp
  · rw [if_neg h]; simp
theorem xMk_len {kd : Bool} {ow : Nat} : (xMk z kd ow n v).length ≤ 3 := by
  unfold xMk
  rw [List.length_cons]
  by_cases h : sEx n 1 = 1
  · rw [if_pos h]; simp
  · rw [if_neg h, List.length_append]
    exact Nat.succ_le_succ (Nat.add_le_add if_len if_len)
theorem xGet_len : (xGet n v).length ≤ 3 := by
  have hb := dg_bag n
  unfold xGet
  rw [List.length_append, List.length_append, List.length_append]
  by_cases h : dg n 12 3 = 0
  · rw [if_pos h, if_neg (show ¬ dg n 12 1 = 1 by omega), if_neg (show ¬ dg n 13 1 = 1 by omega), if_neg (show ¬ dg n 14 1 = 1 by omega)]
    simp
  · rw [if_neg h]
    split <;> split <;> split <;> simp
variable {nx : Nat → Nat → Option Nat} {en : Nat → Bool} {kind cn : Nat} {f A B C : Nat → Int32}
theorem xEv_len {e : Nat} : (xEv nx n e).1.length ≤ 3 := by
  unfold xEv
  split <;> simp
theorem xOp_len {o a b c : Nat} : (xOp nx en z kind o a b c n).1.length ≤ 3 := by
  unfold xOp
  split
  · exact xMk_len
  · split
    · simp
    · exact xMk_len
  · simp
  · simp
  · unfold xCall
    split
    · simp
    · split
      · exact xEv_len
      · split
        · exact xEv_len
        · simp
  · simp
  · simp
  · simp
  · simp
  · exact xGet_len
  · simp
  · simp
theorem xS_len : (xS nx en z kind cn f A B C n).1.length ≤ 3 := by
  unfold xS
  split
  · exact xOp_len
  · simp
theorem okS_ev {e : Nat} (h : okS sn z n) (hsn : sn ≤ 24) (hnx : ∀ u, u < sn → ∀ e, e < 24 → ∀ j, nx u e = some j → j < sn) (he : e < 24) (h1 : dg n 15 1 = 1) : ∀ x, x ∈ (xEv nx n e).1 → okS sn z x := by
  intro x hx
  unfold xEv at hx
  cases hq : nx (dg n 17 5) e with
  | none => rw [hq] at hx; cases hx
  | some t =>
    rw [hq] at hx
    have hx := List.mem_singleton.mp hx
    subst hx
    exact okS_en h (hnx _ h.2.2.1 e he t hq) hsn h1
set_option maxRecDepth 100000 in
set_option maxHeartbeats 4000000 in
theorem okS_x (hsn : sn ≤ 24) (hnx : ∀ u, u < sn → ∀ e, e < 24 → ∀ j, nx u e = some j → j < sn) (hcn : cn ≤ 32) (hop : ∀ j, j < cn → opOk (f j) (A j) (B j) (C j) = true) (h : okS sn z n) : ∀ x, x ∈ (xS nx en z kind cn f A B C n).1 → okS sn z x := by
  intro x hx
  unfold xS at hx
  rcases Nat.lt_or_ge (sPl n) cn with hpc | hpc
  rotate_left
  · rw [if_neg (by omega)] at hx
    cases hx
  rw [if_pos hpc] at hx
  have hop := hop _ hpc
  have hah : okS sn z (sMv n (sPl n + 1)) := okS_mv h (by omega)
  generalize f (sPl n) = O at hop hx
  generalize A (sPl n) = a at hop hx
  generalize B (sPl n) = b at hop hx
  generalize C (sPl n) = c at hop hx
  have hO : b_below O 12 = true := by
    unfold opOk at hop
    rw [Bool.and_eq_true] at hop
    exact hop.1
  obtain ⟨j, hj, rfl⟩ := b_below_e (by omega) hO
  rw [nI_cl (by omega)] at hx
  obtain ⟨ah, eah⟩ : ∃ ah, sMv n (sPl n + 1) = ah := ⟨_, rfl⟩
  rw [eah] at hah
  have one : ∀ {y : Nat}, x ∈ [y] → okS sn z y → okS sn z x := fun hq hy => by rw [List.mem_singleton.mp hq]; exact hy
  have hj' : j = 0 ∨ j = 1 ∨ j = 2 ∨ j = 3 ∨ j = 4 ∨ j = 5 ∨ j = 6 ∨ j = 7 ∨ j = 8 ∨ j = 9 ∨ j = 10 ∨ j = 11 := by omega
  rcases hj' with rfl | rfl | rfl | rfl | rfl | rfl | rfl | rfl | rfl | rfl | rfl | rfl
  · rw [opk_0, Bool.and_eq_true] at hop
    obtain ⟨v, hv, rfl⟩ := b_below_e (by omega) hop.1
    rw [nI_cl (by omega)] at hx
    unfold xOp at hx
    simp only [eah] at hx
    exact okS_mk hah hv x hx
  · rw [opk_1, Bool.and_eq_true, Bool.and_eq_true] at hop
    obtain ⟨v, hv, rfl⟩ := b_below_e (by omega) hop.1.1
    rw [nI_cl (by omega)] at hx
    unfold xOp at hx
    simp only [eah] at hx
    split at hx
    · cases hx
    · exact okS_mk hah hv x hx
  · rw [opk_2, Bool.and_eq_true] at hop
    obtain ⟨v, hv, rfl⟩ := b_below_e (by omega) hop.1
    obtain ⟨u, hu, rfl⟩ := b_below_e (by omega) hop.2
    rw [nI_cl (by omega), nI_cl (by omega)] at hx
    unfold xOp at hx
    simp only [eah] at hx
    exact one hx (okS_ho hah hv (dg_lt ah (2 * u) 2) (fun e => okS_h1 hah hu e) (fun e => okS_h2 hah hu e))
  · rw [opk_3] at hop
    obtain ⟨v, hv, rfl⟩ := b_below_e (by omega) hop
    rw [nI_cl (by omega)] at hx
    unfold xOp at hx
    simp only [eah] at hx
    exact one hx (okS_ho hah hv (by omega) (fun e => by cases e) (fun e => by cases e))
  · rw [opk_4, Bool.and_eq_true] at hop
    obtain ⟨v, hv, rfl⟩ := b_below_e (by omega) hop.1
    obtain ⟨u, hu, rfl⟩ := b_below_e (by omega) hop.2
    rw [nI_cl (by omega), nI_cl (by omega)] at hx
    unfold xOp at hx
    simp only [eah] at hx
    have hx : x ∈ (xCall nx en ah v u).1 := hx
    unfold xCall at hx
    split at hx
    · cases hx
    · split at hx
      · rename_i q
        exact okS_ev hah hsn hnx (by omega) (okS_h1 hah hv q) x hx
      · split at hx
        · rename_i q
          exact okS_ev hah hsn hnx (by omega) q.2 x hx
        · exact one hx hah
  · rw [opk_5] at hop
    obtain ⟨v, hv, rfl⟩ := b_below_e (by omega) hop
    rw [nI_cl (by omega)] at hx
    unfold xOp at hx
    simp only [eah] at hx
    have hx : x ∈ [ah, sMv n v] := hx
    rcases List.mem_cons.mp hx with rfl | hx
    · exact hah
    · exact one hx (okS_mv h (by omega))
  · rw [opk_6] at hop
    obtain ⟨v, hv, rfl⟩ := b_below_e (by omega) hop
    rw [nI_cl (by omega)] at hx
    unfold xOp at hx
    simp only [eah] at hx
    exact one hx (okS_mv h (by omega))
  · rw [opk_7, Bool.and_eq_true] at hop
    obtain ⟨v, hv, rfl⟩ := b_below_e (by omega) hop.1
    obtain ⟨u, hu, rfl⟩ := b_below_e (by omega) hop.2
    rw [nI_cl (by omega), nI_cl (by omega)] at hx
    unfold xOp at hx
    simp only [eah] at hx
    have hx : x ∈ [if dg n (2 * v) 2 = 0 then sMv n u else ah] := hx
    split at hx
    · exact one hx (okS_mv h (by omega))
    · exact one hx hah
  · rw [opk_8] at hop
    obtain ⟨v, hv, rfl⟩ := b_below_e (by omega) hop
    rw [nI_cl (by omega)] at hx
    unfold xOp at hx
    simp only [eah] at hx
    have hx : x ∈ [sPut ah (dg ah (2 * v) 2)] := hx
    unfold sPut at hx
    split at hx
    · exact one hx hah
    · rename_i q
      exact one hx (okS_put hah (dg_lt ah (2 * v) 2) q (fun e => okS_h1 hah hv e) (fun e => okS_h2 hah hv e))
  · rw [opk_9] at hop
    obtain ⟨v, hv, rfl⟩ := b_below_e (by omega) hop
    rw [nI_cl (by omega)] at hx
    unfold xOp at hx
    simp only [eah] at hx
    exact okS_get hah hv x hx
  · unfold xOp at hx
    simp only [eah] at hx
    exact one hx (okS_emp hah)
  · cases hx
end WSS
