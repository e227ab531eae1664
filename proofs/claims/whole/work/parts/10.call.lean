theorem px_AO.warm {s U : State} (hW : s.WarmedH U.vm) (h : px_AO s) : px_AO U := by
  refine ⟨fun t C ht => (h.1 t C ht).moved hW.alike, fun w hw hn => ?_⟩
  cases w <;> first | exact va_Nw.warmM hW (h.2 _ hw rfl) | exact va_Nw.warmC hW (h.2 _ hw rfl) | cases hn
theorem px_AO.calling {U : State} {g : JFrame} {mk : MethodId} {a : Array Value} (h : px_AO U) : px_AO (U.calling g mk a) := by
  refine ⟨fun t C ht => (h.1 t C ht).moved (Vm.Alike.refl U.vm), fun w hw hn => ?_⟩
  cases w <;> first | exact va_Nw.same rfl (u := U) rfl (h.2 _ hw rfl) | cases hn
theorem px_goodIn {ws : List Jvm.Cond} (h : ∀ w ∈ ws, w ∈ px_tbl) : GoodIn px_tbl ws := fun w hw => ⟨h w hw, good_of_word (List.mem_filter.mp (h w hw)).2⟩
/-- what a method's words say -/
theorem px_hd_e {M : px_M} (h : px_chk M) : Jvm.Cond.code (px_name M) (px_bytes M) (px_maxL M) (px_ret M) ∈ px_tbl ∧ Jvm.Cond.initialized (px_name M).cls ∈ px_tbl ∧ (px_kind M = 2 → Jvm.Cond.static (px_name M) ∈ px_tbl) ∧ (px_kind M = 1 → Jvm.Cond.instanceMethod (px_name M) ∈ px_tbl ∧ (px_name M).name = "<init>") ∧ (px_kind M = 0 → Jvm.Cond.instanceMethod (px_name M) ∈ px_tbl ∧ Jvm.Cond.selects (px_name M).cls (px_name M) (px_name M) ∈ px_tbl) ∧ ((px_name M).cls ≠ "java/lang/invoke/MethodHandle" ∧ (px_name M).cls ≠ "java/lang/invoke/VarHandle" ∧ (parseMethodDescriptor (px_name M).desc).map (fun d => d.parameters.length) = some (px_np M)) ∧ px_maxL M ≤ 29 := by
  have h1 := h.2.1
  have a1 := h.1
  obtain ⟨y, bytes, maxL, ret, kind, np, ⟨p1, p2, p3, p4⟩, code⟩ := M
  simp only [px_hd, Bool.and_eq_true, decide_eq_true_eq] at h1
  obtain ⟨⟨⟨⟨a2, a3⟩, a4⟩, a5⟩, a6⟩ := h1
  refine ⟨px_tbl_of a1 rfl, px_tbl_of a2 rfl, fun hk => ?_, fun hk => ?_, fun hk => ?_, a5, Nat.le_of_ble_eq_true a6⟩
  · have hk : kind = 2 := hk
    subst hk
    simp only [decide_eq_true_eq] at a3
    exact px_tbl_of a3 rfl
  · have hk : kind = 1 := hk
    subst hk
    simp only [Bool.and_eq_true, decide_eq_true_eq] at a3
    exact ⟨px_tbl_of a3.1 rfl, a3.2⟩
  · have hk : kind = 0 := hk
    subst hk
    simp only [Bool.and_eq_true, decide_eq_true_eq] at a3
    exact ⟨px_tbl_of a3.1 rfl, px_tbl_of a3.2 rfl⟩
section PXC
variable {G : px_G} {M M' : px_M} {d mc ms d' mc' ms' : Nat} {Post Post' : Option Value → List px_E → Prop} {k n pc nx a b pos f i o ci : Nat} {v : Int32} {pl : List (Option Value)} {st as rest fs : List Value} {ph : List px_E}
theorem px_after {p : Program} {e : Env} {R : Room} {s : State} {m : MethodId} {args aa : Array Value} {below : List Frame} {meth : Method} {c : Code} {H : Heap} {locs : List Loc} {ls : Array Slot} {st0 : List Value} {Q : State → Prop} (hr : va_Run p G.1 e R s m args below meth c H locs k n mc' ms' (F0 m pc ls st0) (rest.map (px_v G.2.2.2)) (px_Q G Post' aa) (fun q => G.2.2.2 ≤ q)) (hS : va_S (fun q => G.2.2.2 ≤ q) s.heap H locs)
    (kk : ∀ (r : Option Value) (ph' : List px_E), Post' r ph' → ∀ (H1 : Heap) (locs1 : List Loc), px_H G ph' H1 → va_S (fun q => G.2.2.2 ≤ q) s.heap H1 locs1 → W p G.1 e R s m args below meth c H1 locs1 (k + mc') (n + ms') Q (F0 m (pc + 3) ls ((r.toList ++ rest).map (px_v G.2.2.2)))) : W p G.1 e R s m args below meth c H locs k n Q (F0 m pc ls st0) := by
  intro T hT X
  obtain ⟨v, st₀, t, T', L, h0, X', hL, e1, e2, ⟨⟨r, ph', hv, hp, hH'⟩, hz, hk⟩, st⟩ := hr T hT X
  rw [h0] at hz hk
  have hv' : v = r.map (px_v G.2.2.2) := Outcome.returned.inj hv
  subst hv'
  obtain ⟨t2, a1, b1⟩ := kk r ph' hp T'.heap (locs ++ L) (by rw [e1]; exact hH') ⟨Nat.le_trans hS.1 (by rw [e1]; exact hz), fun q h1 h2 => by rw [e1, hk q (Nat.lt_of_lt_of_le h1 hS.1) h2]; exact hS.2.1 q h1 h2, fun q hq => by
      rcases List.mem_append.mp hq with h | h
      · exact hS.2.2 q h
      · exact hL q h⟩ T' rfl X'
  refine ⟨t2, st t2 ?_, b1⟩
  have e9 : (r.toList ++ rest).map (px_v G.2.2.2) = (r.map (px_v G.2.2.2)).toList ++ rest.map (px_v G.2.2.2) := by cases r <;> rfl
  rw [e9] at a1
  exact a1
theorem px_blind {av : List Value} : FrameBlind (va_Pc av (fun U => px_H G ph U.heap ∧ va_K G.2.1 vwCl (px_tyL G.2.2.1) U ∧ px_AO U)) := by
  intro a U g mk q
  obtain ⟨q0, q1, q2, q3⟩ := q
  exact ⟨q0, q1, va_K.moved (u := U) (U := U.calling g mk a) (Vm.Alike.refl U.vm) q2, q3.calling⟩
theorem px_catsum {B : Nat} (hw : (rest.map fun v => v.category).sum ≤ 8) : ((rest.map (px_v B)).map fun v => v.category).sum ≤ 8 := by rw [px_map_cat]; exact hw
/-- an instance's method is called -/
theorem px_callV (hI : px_look (px_code M) pc = some (.invokevirtual i, nx, a, 0, pos, v, f)) (ha : px_ys[a]? = some (px_name M')) (hc' : px_chk M') (hk' : px_kind M' = 0) (hM : px_Met G M' d' mc' ms' (.ref o :: as) ph Post') (hd' : d' + 1 ≤ d) (ho : ph[o]? = some (.inr (ci, fs))) (hci : (vwCl[ci]?).map (fun r => r.1) = some (px_name M').cls) (hst : st = as.reverse ++ .ref o :: rest) (hn' : as.length = px_np M') (hw : (rest.map fun v => v.category).sum ≤ 8) (hmc : k + mc' ≤ mc) (hms : n + ms' ≤ ms)
    (kk : ∀ (r : Option Value) (ph' : List px_E), Post' r ph' → px_W G M d mc ms Post (k + mc') (n + ms') nx pl (r.toList ++ rest) ph') : px_W G M d mc ms Post k n pc pl st ph := by
  intro p e s m args below meth c C H locs ls hH hS hL
  obtain ⟨hd, rfl, hw2⟩ := px_dec (L := 3) C.2.2.2.2.2.2.2.2.2.2 hI rfl (by decide)
  simp only [px_chkW, ha, decide_eq_true_eq] at hw2
  obtain ⟨w1, w2, -, -, w3, w4, w5⟩ := px_hd_e hc'
  obtain ⟨w6, w7⟩ := w3 hk'
  have hts := C.2.2.2.2.1
  have hK := C.2.2.2.2.2.1
  have hAO := C.2.2.2.2.2.2.2.2.2.1.2
  obtain ⟨q, hq, hq1⟩ := Option.map_eq_some_iff.mp hci
  have hws : ∀ w ∈ px_ws M', w ∈ px_tbl := fun w hw => by
    rcases List.mem_cons.mp hw with rfl | hw
    · exact w1
    · exact hw
  have hG : GoodIn px_tbl (wsV (px_name M).cls i (px_name M').cls (px_name M') (px_ws M')) := by
    refine px_goodIn (fun w hw => ?_)
    rcases List.mem_append.mp hw with hw | hw
    · simp only [List.mem_cons, List.not_mem_nil, or_false] at hw
      rcases hw with rfl | rfl | rfl | rfl
      · exact px_tbl_of hw2 rfl
      · exact w6
      · exact w7
      · exact w2
    · exact hws w hw
  refine px_after (va_runV (Ts := px_tbl) (own := (px_name M).cls) (C := (px_name M').cls) (b := G.2.2.2 + o) (As := as.map (px_v G.2.2.2)) ⟨C.1, C.2.1, C.2.2.1, C.2.2.2.1, hts⟩ hM (cwV (px_np M') hts hG rfl rfl rfl ⟨rfl, w4⟩ ⟨hd', by show 8 + (px_maxL M' + 11) + 48 * d' ≤ 48 * d; omega⟩) ⟨px_blind, ?_, fun U hU hW => ⟨rfl, by rw [hU]; exact hH, va_K.moved hW.alike hK, hAO.warm hW⟩⟩ rfl (by rw [List.length_map]; exact hn') hL.1 (by rw [hst]; simp [px_v]) (lv_room (px_catsum hw)) hd ⟨hmc, hms⟩) hS (fun r ph' hp H1 locs1 hH1 hS1 => kk r ph' hp p e s m args below meth c C H1 locs1 ls hH1 hS1 hL)
  have h9 := va_recv hK (hH.one ho) (ci := ci) (q0 := 0) hq rfl
  rw [hq1] at h9
  exact h9
/-- a static method is called -/
theorem px_callS (hI : px_look (px_code M) pc = some (.invokestatic i, nx, a, 0, pos, v, f)) (ha : px_ys[a]? = some (px_name M')) (hc' : px_chk M') (hk' : px_kind M' = 2) (hM : px_Met G M' d' mc' ms' as ph Post') (hd' : d' + 1 ≤ d) (hst : st = as.reverse ++ rest) (hn' : as.length = px_np M') (hw : (rest.map fun v => v.category).sum ≤ 8) (hmc : k + mc' ≤ mc) (hms : n + ms' ≤ ms)
    (kk : ∀ (r : Option Value) (ph' : List px_E), Post' r ph' → px_W G M d mc ms Post (k + mc') (n + ms') nx pl (r.toList ++ rest) ph') : px_W G M d mc ms Post k n pc pl st ph := by
  intro p e s m args below meth c C H locs ls hH hS hL
  obtain ⟨hd, rfl, hw2⟩ := px_dec (L := 3) C.2.2.2.2.2.2.2.2.2.2 hI rfl (by decide)
  simp only [px_chkW, ha, decide_eq_true_eq] at hw2
  obtain ⟨w1, w2, w3, -, -, w4, w5⟩ := px_hd_e hc'
  have w6 := w3 hk'
  have hts := C.2.2.2.2.1
  have hK := C.2.2.2.2.2.1
  have hAO := C.2.2.2.2.2.2.2.2.2.1.2
  have hws : ∀ w ∈ px_ws M', w ∈ px_tbl := fun w hw => by
    rcases List.mem_cons.mp hw with rfl | hw
    · exact w1
    · exact hw
  have hG : GoodIn px_tbl (va_wsS (px_name M).cls i (px_name M') (px_ws M')) := by
    refine px_goodIn (fun w hw => ?_)
    rcases List.mem_append.mp hw with hw | hw
    · simp only [List.mem_cons, List.not_mem_nil, or_false] at hw
      rcases hw with rfl | rfl | rfl
      · exact px_tbl_of hw2 rfl
      · exact w6
      · exact w2
    · exact hws w hw
  exact px_after (va_runS (Ts := px_tbl) (own := (px_name M).cls) (As := as.map (px_v G.2.2.2)) ⟨C.1, C.2.1, C.2.2.1, C.2.2.2.1, hts⟩ hM (va_cwS (px_np M') hts hG rfl rfl rfl w4 ⟨hd', by show 8 + (px_maxL M' + 11) + 48 * d' ≤ 48 * d; omega⟩) ⟨px_blind, fun U hU hW => ⟨rfl, by rw [hU]; exact hH, va_K.moved hW.alike hK, hAO.warm hW⟩⟩ rfl (by rw [List.length_map]; exact hn') hL.1 (by rw [hst]; simp) (lv_room (px_catsum hw)) hd ⟨hmc, hms⟩) hS (fun r ph' hp H1 locs1 hH1 hS1 => kk r ph' hp p e s m args below meth c C H1 locs1 ls hH1 hS1 hL)
/-- a static method of a nest mate is called -/
theorem px_callSN (hI : px_look (px_code M) pc = some (.invokestatic i, nx, a, 1, pos, v, f)) (ha : px_ys[a]? = some (px_name M')) (hc' : px_chk M') (hk' : px_kind M' = 2) (hM : px_Met G M' d' mc' ms' as ph Post') (hd' : d' + 1 ≤ d) (hst : st = as.reverse ++ rest) (hn' : as.length = px_np M') (hw : (rest.map fun v => v.category).sum ≤ 8) (hmc : k + mc' ≤ mc) (hms : n + ms' ≤ ms)
    (kk : ∀ (r : Option Value) (ph' : List px_E), Post' r ph' → px_W G M d mc ms Post (k + mc') (n + ms') nx pl (r.toList ++ rest) ph') : px_W G M d mc ms Post k n pc pl st ph := by
  intro p e s m args below meth c C H locs ls hH hS hL
  obtain ⟨hd, rfl, hw2⟩ := px_dec (L := 3) C.2.2.2.2.2.2.2.2.2.2 hI rfl (by decide)
  simp only [px_chkW, ha, decide_eq_true_eq] at hw2
  obtain ⟨w1, w2, w3, -, -, w4, w5⟩ := px_hd_e hc'
  have w6 := w3 hk'
  have hts := C.2.2.2.2.1
  have hK := C.2.2.2.2.2.1
  have hAO := C.2.2.2.2.2.2.2.2.2.1.2
  have hws : ∀ w ∈ px_ws M', w ∈ px_tbl := fun w hw => by
    rcases List.mem_cons.mp hw with rfl | hw
    · exact w1
    · exact hw
  exact px_after (va_runSN (Ts := px_tbl) (own := (px_name M).cls) (host := "ProtocolMachines") (As := as.map (px_v G.2.2.2)) ⟨C.1, C.2.1, C.2.2.1, C.2.2.2.1, hts⟩ hM ⟨va_cnB (px_np M') hts (px_goodIn hws) rfl rfl rfl (hAO.2 _ (List.mem_of_getElem? hw2) rfl) (hts _ w2) w4 ⟨hd', by show 8 + (px_maxL M' + 11) + 48 * d' ≤ 48 * d; omega⟩, hts _ w6, trivial⟩ ⟨px_blind, fun U hU hW => ⟨rfl, by rw [hU]; exact hH, va_K.moved hW.alike hK, hAO.warm hW⟩⟩ rfl (by rw [List.length_map]; exact hn') hL.1 (by rw [hst]; simp) (lv_room (px_catsum hw)) hd ⟨hmc, hms⟩) hS (fun r ph' hp H1 locs1 hH1 hS1 => kk r ph' hp p e s m args below meth c C H1 locs1 ls hH1 hS1 hL)
/-- a constructor is called -/
theorem px_callI (hI : px_look (px_code M) pc = some (.invokespecial i, nx, a, 0, pos, v, f)) (ha : px_ys[a]? = some (px_name M')) (hc' : px_chk M') (hk' : px_kind M' = 1) (hr' : px_ret M' = none) (hM : px_Met G M' d' mc' ms' (.ref o :: as) ph Post') (hd' : d' + 1 ≤ d) (hst : st = as.reverse ++ .ref o :: rest) (hn' : as.length = px_np M') (hw : (rest.map fun v => v.category).sum ≤ 8) (hmc : k + mc' ≤ mc) (hms : n + ms' ≤ ms)
    (kk : ∀ (r : Option Value) (ph' : List px_E), Post' r ph' → px_W G M d mc ms Post (k + mc') (n + ms') nx pl (r.toList ++ rest) ph') : px_W G M d mc ms Post k n pc pl st ph := by
  intro p e s m args below meth c C H locs ls hH hS hL
  obtain ⟨hd, rfl, hw2⟩ := px_dec (L := 3) C.2.2.2.2.2.2.2.2.2.2 hI rfl (by decide)
  simp only [px_chkW, ha, decide_eq_true_eq] at hw2
  obtain ⟨w1, w2, -, w3, -, w4, w5⟩ := px_hd_e hc'
  obtain ⟨w6, w7⟩ := w3 hk'
  have hts := C.2.2.2.2.1
  have hK := C.2.2.2.2.2.1
  have hAO := C.2.2.2.2.2.2.2.2.2.1.2
  have hws : ∀ w ∈ px_ws M', w ∈ px_tbl := fun w hw => by
    rcases List.mem_cons.mp hw with rfl | hw
    · exact w1
    · exact hw
  have hwe : px_ws M' = Jvm.Cond.code (px_name M') (px_bytes M') (px_maxL M') none :: px_tbl := by unfold px_ws; rw [hr']
  exact px_after (va_runI (Ts := px_tbl) (own := (px_name M).cls) (b := G.2.2.2 + o) (As := as.map (px_v G.2.2.2)) ⟨C.1, C.2.1, C.2.2.1, C.2.2.2.1, hts⟩ hM (cwI (px_np M') hts (px_goodIn hws) hwe rfl rfl (hts _ w2) (hts _ (px_tbl_of hw2 rfl)) (hts _ w6) w7 w4 ⟨hd', by show 8 + (px_maxL M' + 11) + 48 * d' ≤ 48 * d; omega⟩) ⟨px_blind, fun U hU hW => ⟨rfl, by rw [hU]; exact hH, va_K.moved hW.alike hK, hAO.warm hW⟩⟩ rfl (by rw [List.length_map]; exact hn') hL.1 (by rw [hst]; simp [px_v]) (lv_room (px_catsum hw)) hd ⟨hmc, hms⟩) hS (fun r ph' hp H1 locs1 hH1 hS1 => kk r ph' hp p e s m args below meth c C H1 locs1 ls hH1 hS1 hL)
/-- a nest mate's constructor is called -/
theorem px_callIN (hI : px_look (px_code M) pc = some (.invokespecial i, nx, a, 1, pos, v, f)) (ha : px_ys[a]? = some (px_name M')) (hc' : px_chk M') (hk' : px_kind M' = 1) (hr' : px_ret M' = none) (hM : px_Met G M' d' mc' ms' (.ref o :: as) ph Post') (hd' : d' + 1 ≤ d) (hst : st = as.reverse ++ .ref o :: rest) (hn' : as.length = px_np M') (hw : (rest.map fun v => v.category).sum ≤ 8) (hmc : k + mc' ≤ mc) (hms : n + ms' ≤ ms)
    (kk : ∀ (r : Option Value) (ph' : List px_E), Post' r ph' → px_W G M d mc ms Post (k + mc') (n + ms') nx pl (r.toList ++ rest) ph') : px_W G M d mc ms Post k n pc pl st ph := by
  intro p e s m args below meth c C H locs ls hH hS hL
  obtain ⟨hd, rfl, hw2⟩ := px_dec (L := 3) C.2.2.2.2.2.2.2.2.2.2 hI rfl (by decide)
  simp only [px_chkW, ha, decide_eq_true_eq] at hw2
  obtain ⟨w1, w2, -, w3, -, w4, w5⟩ := px_hd_e hc'
  obtain ⟨w6, w7⟩ := w3 hk'
  have hts := C.2.2.2.2.1
  have hK := C.2.2.2.2.2.1
  have hAO := C.2.2.2.2.2.2.2.2.2.1.2
  have hws : ∀ w ∈ px_ws M', w ∈ px_tbl := fun w hw => by
    rcases List.mem_cons.mp hw with rfl | hw
    · exact w1
    · exact hw
  have hwe : px_ws M' = Jvm.Cond.code (px_name M') (px_bytes M') (px_maxL M') none :: px_tbl := by unfold px_ws; rw [hr']
  exact px_after (va_runIN (Ts := px_tbl) (own := (px_name M).cls) (host := "ProtocolMachines") (b := G.2.2.2 + o) (As := as.map (px_v G.2.2.2)) ⟨C.1, C.2.1, C.2.2.1, C.2.2.2.1, hts⟩ hM ⟨va_cnB (px_np M') hts (px_goodIn hws) hwe rfl rfl (hAO.2 _ (List.mem_of_getElem? hw2) rfl) (hts _ w2) w4 ⟨hd', by show 8 + (px_maxL M' + 11) + 48 * d' ≤ 48 * d; omega⟩, w7, hts _ w6⟩ ⟨px_blind, fun U hU hW => ⟨rfl, by rw [hU]; exact hH, va_K.moved hW.alike hK, hAO.warm hW⟩⟩ rfl (by rw [List.length_map]; exact hn') hL.1 (by rw [hst]; simp [px_v]) (lv_room (px_catsum hw)) hd ⟨hmc, hms⟩) hS (fun r ph' hp H1 locs1 hH1 hS1 => kk r ph' hp p e s m args below meth c C H1 locs1 ls hH1 hS1 hL)
end PXC
