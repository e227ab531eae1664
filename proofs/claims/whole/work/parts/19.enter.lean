/-- the Model's numbers at its start -/
def m0 : Nat → Int32
  | 6 => -1
  | 10 => -1
  | _ => 0
abbrev mdl0 : List px_E := [MD m0, IA 128 zI, IA 128 zI, LA 128 zL, LA 128 zL, ZA 40 zI, LA 40 zL, LA 40 zL, LA 40 zL, LA 40 zL, ZA 12 zI, IA 2424 zI, ZA 101 zI, LA 101 zL, LA 101 zL, IA 12 zI, IA 6912 zI, ZA 288 zI, IA 101 zI, IA 101 zI, IA 101 zI, IA 101 zI, IA 625 zI, IA 625 zI, IA 625 zI, ZA 625 zI, IA 625 zI, IA 48 zI, IA 288 zI, IA 288 zI, IA 288 zI, IA 4 zI, IA 128 zI, IA 128 zI, IA 128 zI, IA 128 zI, LA 3001 zL, IA 3001 zI, IA 3001 zI, IA 8192 zI, IA 3001 zI, IA 3001 zI, IA 201 zI, IA 201 zI, IA 201 zI, IA 201 zI, ZA 201 zI, IA 6 zI, IA 201 zI, IA 4 zI, IA 48 zI, IA 48 zI, IA 576 zI]
section ENT
variable {p : Program} {e : Env} {s : State} {m : MethodId} {below : List Frame} {meth : Method} {c : Code} {b L : Nat} {xs : Nat → Int32} {G : px_G} {k n pc i : Nat} {st : List Value} {ph : List px_E} {lv : List (Nat × Value)}
theorem LWx.dup {x : Nat} (C : LC p s m meth c b L xs G) (hd : lwl lawC pc = some (.dup, 1)) (h : LWx p e s m below meth c b G k n (pc + 1) lv (.ref x :: .ref x :: st) ph) : LWx p e s m below meth c b G k n pc lv (.ref x :: st) ph := fun H locs ls hH hS hl => lv_dup C.1.1 C.1.2.1 (lw_d hd) rfl (h H locs ls hH hS hl)
theorem LWx.ast {j : Fin 4} {x : Nat} {lv' : List (Nat × Value)} (C : LC p s m meth c b L xs G) (hd : lwl lawC pc = some (.astore_n j, 1)) (hl : (j.val, Value.ref x) :: lv.filter (fun q => !(q.1 == j.val) && !(q.1 + 1 == j.val && q.2.category == 2)) = lv') (h : LWx p e s m below meth c b G k n (pc + 1) lv' st ph) : LWx p e s m below meth c b G k n pc lv (.ref x :: st) ph := fun H locs ls hH hS hl0 => lv_astore_n C.1.1 C.1.2.1 (lw_d hd) rfl hl0 j.isLt hl (fun ls' hl' => h H locs ls' hH hS hl')
end ENT
set_option maxRecDepth 100000 in
set_option maxHeartbeats 4000000 in
theorem lw_enter {p : Program} {e : Env} {s : State} {m : MethodId} {below : List Frame} {meth : Method} {c : Code} (l : Launch) {b L : Nat} {xs : Nat → Int32} {Inv : List px_E → Prop} (hO : ∀ G, OPS G Inv) (h0 : ∀ fa fr fk fm : Nat → Option Nat, (∀ i, i < 11 → fa i = some (13 + 2 * i)) → (∀ i, i < 11 → fr i = some (14 + 2 * i)) → (∀ i, i < 4 → fk i = some (51 + 6 * i)) → (∀ i, i < 4 → fm i = some (76 + 3 * i)) → Inv (cls0 fa fr fk fm ++ mdl0)) (hL : L ≤ 384) (C0 : lw_At p s m meth c b L xs) : W p l e room_1 s m #[Value.ref b] below meth c s.heap [] 0 0 (lw_Z below #[Value.ref b] s) (entryFrame m ([Value.ref b] : List Value).toArray 4) := by
  obtain ⟨D, cA, hK, hAO⟩ := lw_known C0
  have C : LC p s m meth c b L xs (l, D, cA, s.heap.size) := ⟨C0, rfl, hK, hAO⟩
  have key : LWx p e s m below meth c b (l, D, cA, s.heap.size) 0 0 0 [(0, .ref b)] [] [] := by
    generalize (l, D, cA, s.heap.size) = G at C
    refine LWx.new (a := 11) (pos := 114) C lq_0 rfl (by decide +kernel) rfl (by decide) (by decide) (LWx.dup C lq_3 ?_)
    refine LWx.init (pos := 116) (o := 0) (rest := [.ref 0]) C lq_4 (by decide +kernel) kX11_init rfl rfl (c_X_init (d := 0) (Q := fun r ph => r = none ∧ ∃ fa fr fk fm : Nat → Option Nat, ((∀ i, i < 11 → fa i = some (13 + 2 * i)) ∧ (∀ i, i < 11 → fr i = some (14 + 2 * i)) ∧ (∀ i, i < 4 → fk i = some (51 + 6 * i)) ∧ (∀ i, i < 4 → fm i = some (76 + 3 * i))) ∧ ph = cls0 fa fr fk fm) (fun fa fr fk fm h1 h2 h3 h4 => ⟨rfl, fa, fr, fk, fm, ⟨h1, h2, h3, h4⟩, rfl⟩)) (by decide) rfl rfl (Nat.le_of_ble_eq_true rfl) (by decide) (by decide) ?_
    rintro r ph ⟨rfl, fa, fr, fk, fm, ⟨h1, h2, h3, h4⟩, rfl⟩
    refine LWx.ast C lq_7 rfl ?_
    refine LWx.new (a := 12) (pos := 1069) C lq_8 rfl (by decide +kernel) rfl (by decide) (by decide) (LWx.dup C lq_11 ?_)
    refine LWx.init (pos := 1071) (o := 100) (rest := [.ref 100]) C lq_12 (by decide +kernel) kX12_init rfl rfl (c_N_init (d := 0) (pre := cls0 fa fr fk fm) (Q := fun r ph => r = none ∧ ph = cls0 fa fr fk fm ++ mdl0) rfl ⟨rfl, rfl⟩) (by decide) rfl rfl (Nat.le_of_ble_eq_true rfl) (by decide) (by decide) ?_
    rintro r ph ⟨rfl, rfl⟩
    refine LWx.ast C lq_15 rfl ?_
    intro H locs ls hH hS hl
    refine lv_iconst C.1.1 C.1.2.1 (lw_d lq_16) (v := nI 0) rfl (lv_istore_n C.1.1 C.1.2.1 (lw_d lq_17) rfl hl (by decide) rfl (fun ls' hl' => ?_))
    refine lw_loop C (hO G) hL 64 0 _ _ _ (by omega) (by omega) ?_ ?_ (h0 fa fr fk fm h1 h2 h3 h4) H locs ls' hH hS ⟨hl'.1, hl'.2.1, fun q hq => hl'.2.2 q ?_⟩
    · decide
    · decide
    · simp only [List.mem_cons, List.not_mem_nil, or_false] at hq
      rcases hq with rfl | rfl | rfl | rfl
      · exact List.mem_cons_of_mem _ (List.mem_cons_of_mem _ (List.mem_cons_of_mem _ List.mem_cons_self))
      · exact List.mem_cons_of_mem _ (List.mem_cons_of_mem _ List.mem_cons_self)
      · exact List.mem_cons_of_mem _ List.mem_cons_self
      · exact List.mem_cons_self
  have hle := lv_entry ([Value.ref b]) (n := 4) (by show 1 ≤ 4; omega)
  rw [lg_entry_eq]
  exact key s.heap [] _ ⟨rfl, fun k e hk => (by cases hk), fun k t n c hk => (by cases hk)⟩ va_S.rf hle
