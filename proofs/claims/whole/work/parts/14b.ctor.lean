theorem px_obj {ph : List px_E} {o : Nat} {x : px_E} (hl : ph.length = o + 1) (ho : ph[o]? = some x) : ph = ph.take o ++ [x] ∧ ∀ (x' : px_E) (l : List px_E), ph.take o ++ (x' :: l) = ph.set o x' ++ l := by
  have h1 : ph = ph.take o ++ [x] := by
    have h2 := List.take_append_drop o ph
    have h3 : ph.drop o = [x] := by
      have hlt : o < ph.length := by omega
      rw [List.drop_eq_getElem_cons hlt]
      have h4 : ph[o] = x := by rw [List.getElem?_eq_getElem hlt] at ho; exact Option.some.inj ho
      rw [h4, List.drop_eq_nil_of_le (by omega)]
    rw [h3] at h2
    exact h2.symm
  refine ⟨h1, fun x' l => ?_⟩
  have h5 : ph.set o x' = ph.take o ++ [x'] := by
    apply List.ext_getElem?
    intro j
    have htl : (ph.take o).length = o := by rw [List.length_take]; omega
    by_cases hj : o = j
    · subst hj
      rw [List.getElem?_set_self (by omega), List.getElem?_append_right (by omega), htl]
      simp
    · rw [List.getElem?_set_ne hj]
      by_cases hjo : j < o
      · rw [List.getElem?_append_left (by omega), List.getElem?_take_of_lt hjo]
      · rw [List.getElem?_eq_none (by omega), List.getElem?_eq_none (by simp; omega)]
  rw [h5]
  simp
section CTU
variable {G : px_G} {ph : List px_E} {d o : Nat} {Q : Option Value → List px_E → Prop}
theorem o_K_init (hl : ph.length = o + 1) (ho : ph[o]? = some (.inr (0, [.null, .null, .null, .null, .null]))) (hQ : Q none (ph.set o (CC (o + 1) (o + 2) (o + 3) (o + 4) (o + 5)) ++ [IA 12 zI, IA 72 zI, IA 72 zI, IA 72 zI, IA 2 zI])) : px_Met G mX0_init (d + 1) 5 230 [.ref o] ph Q := by
  obtain ⟨h1, h2⟩ := px_obj hl ho
  rw [← h2] at hQ
  rw [h1]
  exact c_K_init (by rw [List.length_take]; omega) hQ
theorem o_C_init (hl : ph.length = o + 1) (ho : ph[o]? = some (.inr (1, [.int 0, .null, .null]))) (hQ : Q none (ph.set o (.inr (1, [.int 0, .ref (o + 1), .ref (o + 2)])) ++ [IA 32 zI, IA 96 zI])) : px_Met G mX1_init (d + 1) 2 128 [.ref o] ph Q := by
  obtain ⟨h1, h2⟩ := px_obj hl ho
  rw [← h2] at hQ
  rw [h1]
  exact c_C_init (by rw [List.length_take]; omega) hQ
theorem o_D_init (hl : ph.length = 36) (ho : ph[35]? = some (.inr (3, [.int 0, .null, .null, .null, .null, .null, .null, .null, .null]))) (hQ : Q none (ph.set 35 (DR 0) ++ [IA 2400 zI, IA 100 zI, IA 100 zI, IA 100 zI, IA 24 zI, IA 24 zI, IA 576 zI, IA 24 zI])) : px_Met G mX3_init (d + 1) 8 3348 [.ref 35] ph Q := by
  obtain ⟨h1, h2⟩ := px_obj hl ho
  rw [← h2] at hQ
  rw [h1]
  exact c_D_init (by rw [List.length_take]; omega) hQ
theorem o_Q_init (hl : ph.length = 46) (ho : ph[45]? = some (.inr (2, [.null, .null, .null, .null, .int 0, .int 0]))) (hQ : Q none (ph.set 45 (.inr (2, [.ref 46, .ref 47, .ref 48, .ref 49, .int 0, .int (-2)])) ++ [IA 625 zI, IA 625 zI, IA 625 zI, IA 625 zI])) : px_Met G mX2_init (d + 1) 4 2500 [.ref 45] ph Q := by
  obtain ⟨h1, h2⟩ := px_obj hl ho
  rw [← h2] at hQ
  rw [h1]
  exact c_Q_init (by rw [List.length_take]; omega) hQ
theorem o_W_init (hl : ph.length = 89) (ho : ph[88]? = some (.inr (4, [.null, .int 0, .int 0, .int 0, .null, .int 0, .null, .null, .null, .null, .int 0, .null]))) (hQ : Q none (ph.set 88 (DN 0 0 0 0 0) ++ [TL, IA 4 zI, IA 48 zI, IA 48 zI, IA 576 zI, IA 6 zI, IA 200 zI, IA 200 zI, IA 200 zI, IA 200 zI, IA 200 zI])) : px_Met G mX4_init (d + 2) 11 1686 [.ref 88] ph Q := by
  obtain ⟨h1, h2⟩ := px_obj hl ho
  rw [← h2] at hQ
  rw [h1]
  exact c_W_init (by rw [List.length_take]; omega) hQ
end CTU
