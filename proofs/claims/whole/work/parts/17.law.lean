/-! THE CLAIM OUT OF ONE WALK OF THE LAW'S BODY. Your part is whole_start (and what it stands on); all else here is the same for every law, but numbers. -/
def R_law : String := "ProtocolMachinesLaw"
def lw_P (b : Addr) (xs : List Int32) (args : Array Value) (s : State) : Prop := args = #[.ref b] ∧ s.IntsAt b xs ∧ xs.length ≤ 384 ∧ (Jvm.Cond.and given_1 narrow_1).before args s = true
def lw_Q (_ : Array Value) (s : State) (o : Outcome) (t : State) : Prop := o = .returned (some (.int 1)) ∧ Framed s o t [] 600000 7302250
def lw_Z (below : List Frame) (a : Array Value) (s : State) : State → Prop := fun t => ∃ o, t.status = .running ∧ Ended t below o ∧ lw_Q a s o t
/-- the law's own end, with 1 on the stack, nothing written that was there before, its room as the claim has it -/
theorem lw_ret {p : Program} {l : Launch} {e : Env} {s : State} {m : MethodId} {below : List Frame} {meth : Method} {c : Code} {b : Nat} (hx : p.tables.exec = Jvm.exec) (hb : c.code = code) (hr : meth.sig.returnType = ret) (hlocks : meth.locks = false) {pc : Nat} {H : Heap} {ls : Array Slot} (hdg : decode code pc = .ok (.ireturn, 1)) : W p l e room_1 s m #[Value.ref b] below meth c H [] 600000 7302250 (lw_Z below #[Value.ref b] s) (F0 m pc ls [.int 1]) := by
  intro T hT X
  obtain ⟨fs, hret, hrun, hended, hW, hframe⟩ := X.leave (v := some (.int 1)) (hlocks := hlocks) (fun h => by rw [hr] at h; cases h)
  have hmeth' : T.vm.method? m = some meth := X.method'
  refine ⟨T.setFrames fs, ?_, .returned (some (.int 1)), hrun, hended, rfl, ⟨_, rfl⟩, hW, hframe⟩
  jvm_step X.here [X.here.top, hx, hb, hdg, hmeth', hr, ret, narrow_b1]
  (try refine ⟨rfl, ?_⟩); (try refine ⟨rfl, ?_⟩)
  first | (intro acts; rw [hret _ acts rfl rfl rfl]) | rw [hret _ _ rfl rfl rfl]
  exact Steps.refl _
/-- what holds at the law's entry: the machine, the code, the tables' words (any of lw_tbl by 'hts w (by decide +kernel)'), the script of L ints xs at the cell b, what the Statement gives of the start (any of its parts by flat_of_before) -/
def lw_At (p : Program) (s : State) (m : MethodId) (meth : Method) (c : Code) (b L : Nat) (xs : Nat → Int32) : Prop :=
  p.tables.exec = Jvm.exec ∧ c.code = code ∧ meth.sig.returnType = ret ∧ c.maxLocals = 4 ∧ s.vm.findClass R_law = some m.cls ∧ (∀ w ∈ lw_tbl, w.before #[Value.ref b] s = true) ∧ va_X b L xs s s.heap ∧ b < s.heap.size ∧ meth.locks = false ∧ (Jvm.Cond.and given_1 narrow_1).before #[Value.ref b] s = true

/-- the law between its instructions: i ints read, k cells and n slots made, the pure heap ph -/
def LW (p : Program) (e : Env) (s : State) (m : MethodId) (below : List Frame) (meth : Method) (c : Code) (b : Nat) (G : px_G) (k n pc i : Nat) (st : List Value) (ph : List px_E) : Prop :=
  ∀ (H : Heap) (locs : List Loc) (ls : Array Slot), px_H G ph H → va_S (fun q => G.2.2.2 ≤ q) s.heap H locs → lv_has ls 4 [(0, .ref b), (1, .ref (G.2.2.2 + 0)), (2, .ref (G.2.2.2 + 100)), (3, .int (nI i))] → W p G.1 e room_1 s m #[Value.ref b] below meth c H locs k n (lw_Z below #[Value.ref b] s) (F0 m pc ls st)
/-- what the law's calls stand on -/
def LC (p : Program) (s : State) (m : MethodId) (meth : Method) (c : Code) (b L : Nat) (xs : Nat → Int32) (G : px_G) : Prop :=
  lw_At p s m meth c b L xs ∧ G.2.2.2 = s.heap.size ∧ va_K G.2.1 vwCl (px_tyL G.2.2.1) s ∧ px_AO s
section LAW
variable {p : Program} {e : Env} {s : State} {m : MethodId} {below : List Frame} {meth : Method} {c : Code} {b L : Nat} {xs : Nat → Int32} {G : px_G} {k n pc i : Nat} {st : List Value} {ph : List px_E}
theorem LW.a0 (C : LC p s m meth c b L xs G) (hd : lwl lawC pc = some (.aload_n 0, 1)) (h : LW p e s m below meth c b G k n (pc + 1) i (.ref b :: st) ph) : LW p e s m below meth c b G k n pc i st ph := fun H locs ls hH hS hl => lv_aload_n C.1.1 C.1.2.1 (lw_d hd) rfl (lv_at hl 0 rfl) (h H locs ls hH hS hl)
theorem LW.a1 (C : LC p s m meth c b L xs G) (hd : lwl lawC pc = some (.aload_n 1, 1)) (h : LW p e s m below meth c b G k n (pc + 1) i (.ref (G.2.2.2 + 0) :: st) ph) : LW p e s m below meth c b G k n pc i st ph := fun H locs ls hH hS hl => lv_aload_n C.1.1 C.1.2.1 (lw_d hd) rfl (lv_at hl 1 rfl) (h H locs ls hH hS hl)
theorem LW.a2 (C : LC p s m meth c b L xs G) (hd : lwl lawC pc = some (.aload_n 2, 1)) (h : LW p e s m below meth c b G k n (pc + 1) i (.ref (G.2.2.2 + 100) :: st) ph) : LW p e s m below meth c b G k n pc i st ph := fun H locs ls hH hS hl => lv_aload_n C.1.1 C.1.2.1 (lw_d hd) rfl (lv_at hl 2 rfl) (h H locs ls hH hS hl)
theorem LW.i3 (C : LC p s m meth c b L xs G) (hd : lwl lawC pc = some (.iload_n 3, 1)) (h : LW p e s m below meth c b G k n (pc + 1) i (.int (nI i) :: st) ph) : LW p e s m below meth c b G k n pc i st ph := fun H locs ls hH hS hl => lv_iload_n C.1.1 C.1.2.1 (lw_d hd) rfl (lv_at hl 3 rfl) (h H locs ls hH hS hl)
theorem LW.ic {z : Int} {v : Int32} (C : LC p s m meth c b L xs G) (hd : lwl lawC pc = some (.iconst z, 1)) (hv : Int32.ofInt z = v) (h : LW p e s m below meth c b G k n (pc + 1) i (.int v :: st) ph) : LW p e s m below meth c b G k n pc i st ph := fun H locs ls hH hS hl => lv_iconst C.1.1 C.1.2.1 (lw_d hd) hv (h H locs ls hH hS hl)
theorem LW.add {x y : Int32} (C : LC p s m meth c b L xs G) (hd : lwl lawC pc = some (.iadd, 1)) (h : LW p e s m below meth c b G k n (pc + 1) i (.int (x + y) :: st) ph) : LW p e s m below meth c b G k n pc i (.int y :: .int x :: st) ph := fun H locs ls hH hS hl => lv_iadd C.1.1 C.1.2.1 (lw_d hd) (h H locs ls hH hS hl)
theorem LW.sld {j : Nat} (C : LC p s m meth c b L xs G) (hL : L ≤ 384) (hj : j < L) (hd : lwl lawC pc = some (.iaload, 1)) (h : LW p e s m below meth c b G k n (pc + 1) i (.int (xs j) :: st) ph) : LW p e s m below meth c b G k n pc i (.int (nI j) :: .ref b :: st) ph := fun H locs ls hH hS hl => by
  obtain ⟨⟨hx, hb, hr, hml, hown, hts, hX, hbl, hlocks, hgv⟩, hB, hK, hAO⟩ := C
  have hbA : ¬ (fun q => G.2.2.2 ≤ q) b := by show ¬ G.2.2.2 ≤ b; omega
  refine va_sld hx hb hX hbl hbA hS (vp_in_nI hj (by omega)) (lw_d hd) ?_
  rw [nI_clamp (by omega)]
  exact h H locs ls hH hS hl
/-- script[i + q] is laid on the stack -/
theorem LW.arg {q : Nat} {z : Int} (C : LC p s m meth c b L xs G) (hL : L ≤ 384) (hi : i + 6 ≤ L) (hq : q < 6) (hz : Int32.ofInt z = nI q) (h0 : lwl lawC pc = some (.aload_n 0, 1)) (h1 : lwl lawC (pc + 1) = some (.iload_n 3, 1)) (h2 : lwl lawC (pc + 1 + 1) = some (.iconst z, 1)) (h3 : lwl lawC (pc + 1 + 1 + 1) = some (.iadd, 1)) (h4 : lwl lawC (pc + 1 + 1 + 1 + 1) = some (.iaload, 1)) (h : LW p e s m below meth c b G k n (pc + 5) i (.int (xs (i + q)) :: st) ph) : LW p e s m below meth c b G k n pc i st ph := by
  refine LW.a0 C h0 (LW.i3 C h1 (LW.ic C h2 hz (LW.add C h3 ?_)))
  rw [nI_add]
  exact LW.sld C hL (by omega) h4 h
/-- a call of a method that has a contract -/
theorem LW.call {M' : px_M} {idx pos o ci : Nat} {as rest fs : List Value} {Post : Option Value → List px_E → Prop} (C : LC p s m meth c b L xs G) (hd : lwl lawC pc = some (.invokevirtual idx, 3)) (hlk : lw_tbl[pos]? = some (Jvm.Cond.methodLink R_law idx (px_name M'))) (hc' : px_chk M') (hk' : px_kind M' = 0) (hM : px_Met G M' 6 10 30000 (.ref o :: as) ph Post) (ho : ph[o]? = some (.inr (ci, fs))) (hci : (vwCl[ci]?).map (fun r => r.1) = some (px_name M').cls) (hst : st = (as.reverse ++ .ref o :: rest).map (px_v G.2.2.2)) (hn' : as.length = px_np M') (hw : (rest.map fun v => v.category).sum ≤ 8) (hmc : k + 10 ≤ 600000) (hms : n + 30000 ≤ 7302250)
    (kk : ∀ (r : Option Value) (ph' : List px_E), Post r ph' → LW p e s m below meth c b G (k + 10) (n + 30000) (pc + 3) i ((r.toList ++ rest).map (px_v G.2.2.2)) ph') : LW p e s m below meth c b G k n pc i st ph := by
  intro H locs ls hH hS hl
  obtain ⟨⟨hx, hb, hr, hml, hown, hts0, hX, hbl, hlocks, hgv⟩, hB, hK, hAO⟩ := C
  have hts : ∀ w ∈ px_tbl, w.before #[Value.ref b] s = true := fun w hw => hts0 w (List.mem_filter.mp hw).1
  obtain ⟨w1, w2, -, -, w3, w4, w5⟩ := px_hd_e hc'
  obtain ⟨w6, w7⟩ := w3 hk'
  obtain ⟨q, hq, hq1⟩ := Option.map_eq_some_iff.mp hci
  have hws : ∀ w ∈ px_ws M', w ∈ px_tbl := fun w hw => by
    rcases List.mem_cons.mp hw with rfl | hw
    · exact w1
    · exact hw
  have hG : GoodIn px_tbl (wsV R_law idx (px_name M').cls (px_name M') (px_ws M')) := by
    refine px_goodIn (fun w hw => ?_)
    rcases List.mem_append.mp hw with hw | hw
    · simp only [List.mem_cons, List.not_mem_nil, or_false] at hw
      rcases hw with rfl | rfl | rfl | rfl
      · exact px_tbl_of hlk rfl
      · exact w6
      · exact w7
      · exact w2
    · exact hws w hw
  refine px_after (va_runV (Ts := px_tbl) (own := R_law) (C := (px_name M').cls) (b := G.2.2.2 + o) (As := as.map (px_v G.2.2.2)) ⟨hx, hb, hml, hown, hts⟩ hM (cwV (px_np M') hts hG rfl rfl rfl ⟨rfl, w4⟩ ⟨by decide, by show 8 + (px_maxL M' + 11) + 48 * 6 ≤ 336; omega⟩) ⟨px_blind, ?_, fun U hU hW => ⟨rfl, by rw [hU]; exact hH, va_K.moved hW.alike hK, hAO.warm hW⟩⟩ rfl (by rw [List.length_map]; exact hn') hl.1 (by rw [hst]; simp [px_v]) (lv_room (px_catsum hw)) (lw_d hd) ⟨hmc, hms⟩) hS (fun r ph' hp H1 locs1 hH1 hS1 => kk r ph' hp H1 locs1 ls hH1 hS1 hl)
  have h9 := va_recv hK (hH.one ho) (ci := ci) (q0 := 0) hq rfl
  rw [hq1] at h9
  exact h9
end LAW

