/-- the law between its instructions, with other locals -/
def LWx (p : Program) (e : Env) (s : State) (m : MethodId) (below : List Frame) (meth : Method) (c : Code) (b : Nat) (G : px_G) (k n pc : Nat) (lv : List (Nat × Value)) (st : List Value) (ph : List px_E) : Prop :=
  ∀ (H : Heap) (locs : List Loc) (ls : Array Slot), px_H G ph H → va_S (fun q => G.2.2.2 ≤ q) s.heap H locs → lv_has ls 4 lv → W p G.1 e room_1 s m #[Value.ref b] below meth c H locs k n (lw_Z below #[Value.ref b] s) (F0 m pc ls st)
section LAW2
variable {p : Program} {e : Env} {s : State} {m : MethodId} {below : List Frame} {meth : Method} {c : Code} {b L : Nat} {xs : Nat → Int32} {G : px_G} {k n pc i : Nat} {st : List Value} {ph : List px_E} {lv : List (Nat × Value)}
theorem LWx.new {idx a pos : Nat} {r : vw_C} {fs : List Value} (C : LC p s m meth c b L xs G) (hd : lwl lawC pc = some (.new idx, 3)) (hq : vwCl[a]? = some r) (hlk : lw_tbl[pos]? = some (Jvm.Cond.classLink R_law idx r.1)) (efs : px_dfl[a]? = some fs) (hmc : k + 1 ≤ 600000) (hms : n + fs.length ≤ 7302250) (h : LWx p e s m below meth c b G (k + 1) (n + fs.length) (pc + 3) lv (.ref (G.2.2.2 + ph.length) :: st) (ph ++ [.inr (a, fs)])) : LWx p e s m below meth c b G k n pc lv st ph := by
  intro H locs ls hH hS hL
  obtain ⟨⟨hx, hb, hr, hml, hown, hts0, hX, hbl, hlocks, hgv⟩, hB, hK, hAO⟩ := C
  have hts : ∀ w ∈ px_tbl, w.before #[Value.ref b] s = true := fun w hw => hts0 w (List.mem_filter.mp hw).1
  obtain ⟨q', ty, fs', _, efs', hins, hini, hws, hpd, hnm, hdf, hlen⟩ := px_chkC_at hq
  cases efs.symm.trans efs'
  have hKn := hK.1 a _ hq
  refine W.newcK hx hb hown (hts _ (px_tbl_of hlk rfl)) (hts _ (px_tbl_of hins rfl)) (hts _ (px_tbl_of hini rfl)) rfl (lw_d hd) hmc (by rw [← hlen]; exact hms) hKn.2.1 hH.1 fun H1 kC hkC z1 z2 z3 => ?_
  rw [← hlen]
  refine h H1 locs ls (hH.push ⟨_, hq, ?_⟩ (by rw [z2, hH.1]) (by rw [hH.1]; exact z3) (fun _ _ _ z => by cases z)) ⟨Nat.le_trans hS.1 (by rw [z2, hH.1]; omega), fun q q1 q2 => (z3 q (by have := hS.1; rw [hH.1] at this; omega)).trans (hS.2.1 q q1 q2), hS.2.2⟩ hL
  refine (u_born ty hts hws hKn hkC z1 hpd).to (fun j hj => ?_)
  rw [hdf j hj]
  have hp : ∀ (l : List Value), l.map (px_v G.2.2.2) = l → vp_V l j = vp_V (l.map (px_v G.2.2.2)) j := fun l z => by rw [z]
  exact hp fs (px_dfl_v hq efs)
theorem LWx.init {M' : px_M} {idx pos o d' mc' ms' : Nat} {rest : List Value} {Post : Option Value → List px_E → Prop} (C : LC p s m meth c b L xs G) (hd : lwl lawC pc = some (.invokespecial idx, 3)) (hlk : lw_tbl[pos]? = some (Jvm.Cond.methodLink R_law idx (px_name M'))) (hc' : px_chk M') (hk' : px_kind M' = 1) (hr' : px_ret M' = none) (hM : px_Met G M' d' mc' ms' [.ref o] ph Post) (hd' : d' ≤ 6) (hst : st = ([Value.ref o] ++ rest).map (px_v G.2.2.2)) (hn' : 0 = px_np M') (hw : (rest.map fun v => v.category).sum ≤ 8) (hmc : k + mc' ≤ 600000) (hms : n + ms' ≤ 7302250)
    (kk : ∀ (r : Option Value) (ph' : List px_E), Post r ph' → LWx p e s m below meth c b G (k + mc') (n + ms') (pc + 3) lv ((r.toList ++ rest).map (px_v G.2.2.2)) ph') : LWx p e s m below meth c b G k n pc lv st ph := by
  intro H locs ls hH hS hl
  obtain ⟨⟨hx, hb, hr, hml, hown, hts0, hX, hbl, hlocks, hgv⟩, hB, hK, hAO⟩ := C
  have hts : ∀ w ∈ px_tbl, w.before #[Value.ref b] s = true := fun w hw => hts0 w (List.mem_filter.mp hw).1
  obtain ⟨w1, w2, -, w3, -, w4, w5⟩ := px_hd_e hc'
  obtain ⟨w6, w7⟩ := w3 hk'
  have hws : ∀ w ∈ px_ws M', w ∈ px_tbl := fun w hw => by
    rcases List.mem_cons.mp hw with rfl | hw
    · exact w1
    · exact hw
  have hwe : px_ws M' = Jvm.Cond.code (px_name M') (px_bytes M') (px_maxL M') none :: px_tbl := by unfold px_ws; rw [hr']
  exact px_after (va_runI (Ts := px_tbl) (own := R_law) (b := G.2.2.2 + o) (As := ([] : List Value).map (px_v G.2.2.2)) ⟨hx, hb, hml, hown, hts⟩ hM (cwI (px_np M') hts (px_goodIn hws) hwe rfl rfl (hts _ w2) (hts _ (px_tbl_of hlk rfl)) (hts _ w6) w7 w4 ⟨by show d' + 1 ≤ 9; omega, by show 8 + (px_maxL M' + 11) + 48 * d' ≤ 336; omega⟩) ⟨px_blind, fun U hU hW => ⟨rfl, by rw [hU]; exact hH, va_K.moved hW.alike hK, hAO.warm hW⟩⟩ rfl (by rw [List.length_map]; exact hn') hl.1 (by rw [hst]; simp [px_v]) (lv_room (px_catsum hw)) (lw_d hd) ⟨hmc, hms⟩) hS (fun r ph' hp H1 locs1 hH1 hS1 => kk r ph' hp H1 locs1 ls hH1 hS1 hl)
/-- the two answers are the same -/
theorem LW.eq {x : Int32} {o : Int} (C : LC p s m meth c b L xs G) (hd : lwl lawC pc = some (.if_icmp .eq o, 3)) (ht : (pc : Int) + o = ((825 : Nat) : Int)) (h : LW p e s m below meth c b G k n 825 i st ph) : LW p e s m below meth c b G k n pc i (.int x :: .int x :: st) ph := fun H locs ls hH hS hl => lv_icmp_eq C.1.1 C.1.2.1 (lw_d hd) ht (fun _ => h H locs ls hH hS hl) (fun z => absurd rfl z)
/-- one turn's end: i += 6, back to 18 -/
theorem LW.next (C : LC p s m meth c b L xs G) (h : LW p e s m below meth c b G k n 18 (i + 6) [] ph) : LW p e s m below meth c b G k n 825 i [] ph := fun H locs ls hH hS hl =>
  lv_iinc (k := 3) (v := nI (i + 6)) (lv' := [(3, .int (nI (i + 6))), (0, .ref b), (1, .ref (G.2.2.2 + 0)), (2, .ref (G.2.2.2 + 100))]) C.1.1 C.1.2.1 (lw_d lq_825) hl rfl (nI_add i 6) (by decide) rfl (fun ls' hl' => lv_goto C.1.1 C.1.2.1 (lw_d lq_828) (tgt := 18) rfl (h H locs ls' hH hS ⟨hl'.1, hl'.2.1, fun q hq => hl'.2.2 q (by
    simp only [List.mem_cons, List.not_mem_nil, or_false] at hq ⊢
    rcases hq with rfl | rfl | rfl | rfl <;> simp)⟩))
/-- an op: class and Model, one after the other, give the same answer, and what holds between calls holds again -/
def OP (G : px_G) (Inv : List px_E → Prop) (M1 M2 : px_M) (as : List Value) : Prop := ∀ ph, Inv ph → px_Met G M1 6 10 30000 (.ref 0 :: as) ph (fun r ph' => ∃ v, r = some (.int v) ∧ (∃ fs, ph'[100]? = some (.inr (12, fs))) ∧ px_Met G M2 6 10 30000 (.ref 100 :: as) ph' (fun r2 ph'' => r2 = some (.int v) ∧ Inv ph''))
end LAW2
section LAW3
variable {p : Program} {e : Env} {s : State} {m : MethodId} {below : List Frame} {meth : Method} {c : Code} {b L : Nat} {xs : Nat → Int32} {G : px_G} {k n pc i : Nat} {st : List Value} {ph : List px_E} {Inv : List px_E → Prop}
set_option maxRecDepth 100000 in
theorem lo_feed (C : LC p s m meth c b L xs G) (hL : L ≤ 384) (hi : i + 6 ≤ L) (hk : k + 20 ≤ 600000) (hn : n + 60000 ≤ 7302250) (ho : ∃ fs, ph[0]? = some (.inr (11, fs))) (hI : Inv ph) (hM : OP G Inv mX11_feed mX12_feed [.int (xs (i + 1)), .int (xs (i + 2)), .int (xs (i + 3)), .int (xs (i + 4))]) (kk : ∀ ph', Inv ph' → LW p e s m below meth c b G (k + 20) (n + 60000) 825 i [] ph') : LW p e s m below meth c b G k n 132 i [] ph := by
  obtain ⟨fs0, ho⟩ := ho
  refine LW.a1 C lq_132 ?_
  refine LW.arg (q := 1) (z := 1) C hL hi (by decide) rfl lq_133 lq_134 lq_135 lq_136 lq_137 ?_
  refine LW.arg (q := 2) (z := 2) C hL hi (by decide) rfl lq_138 lq_139 lq_140 lq_141 lq_142 ?_
  refine LW.arg (q := 3) (z := 3) C hL hi (by decide) rfl lq_143 lq_144 lq_145 lq_146 lq_147 ?_
  refine LW.arg (q := 4) (z := 4) C hL hi (by decide) rfl lq_148 lq_149 lq_150 lq_151 lq_152 ?_
  refine LW.call (idx := 13) (pos := 404) (o := 0) (rest := []) C lq_153 (by decide +kernel) kX11_feed rfl (hM ph hI) ho rfl rfl rfl (by decide) (by omega) (by omega) ?_
  rintro r ph1 ⟨v, rfl, ⟨fs1, ho1⟩, hM2⟩
  show LW p e s m below meth c b G (k + 10) (n + 30000) 156 i [.int v] ph1
  refine LW.a2 C lq_156 ?_
  refine LW.arg (q := 1) (z := 1) C hL hi (by decide) rfl lq_157 lq_158 lq_159 lq_160 lq_161 ?_
  refine LW.arg (q := 2) (z := 2) C hL hi (by decide) rfl lq_162 lq_163 lq_164 lq_165 lq_166 ?_
  refine LW.arg (q := 3) (z := 3) C hL hi (by decide) rfl lq_167 lq_168 lq_169 lq_170 lq_171 ?_
  refine LW.arg (q := 4) (z := 4) C hL hi (by decide) rfl lq_172 lq_173 lq_174 lq_175 lq_176 ?_
  refine LW.call (idx := 17) (pos := 1305) (o := 100) (rest := [.int v]) C lq_177 (by decide +kernel) kX12_feed rfl hM2 ho1 rfl rfl rfl (Nat.le_of_ble_eq_true rfl) (by omega) (by omega) ?_
  rintro r2 ph2 ⟨rfl, hI2⟩
  show LW p e s m below meth c b G (k + 10 + 10) (n + 30000 + 30000) 180 i [.int v, .int v] ph2
  exact LW.eq (o := 645) C lq_180 rfl (kk ph2 hI2)
set_option maxRecDepth 100000 in
theorem lo_cut (C : LC p s m meth c b L xs G) (hL : L ≤ 384) (hi : i + 6 ≤ L) (hk : k + 20 ≤ 600000) (hn : n + 60000 ≤ 7302250) (ho : ∃ fs, ph[0]? = some (.inr (11, fs))) (hI : Inv ph) (hM : OP G Inv mX11_cut mX12_cut [.int (xs (i + 1))]) (kk : ∀ ph', Inv ph' → LW p e s m below meth c b G (k + 20) (n + 60000) 825 i [] ph') : LW p e s m below meth c b G k n 185 i [] ph := by
  obtain ⟨fs0, ho⟩ := ho
  refine LW.a1 C lq_185 ?_
  refine LW.arg (q := 1) (z := 1) C hL hi (by decide) rfl lq_186 lq_187 lq_188 lq_189 lq_190 ?_
  refine LW.call (idx := 18) (pos := 415) (o := 0) (rest := []) C lq_191 (by decide +kernel) kX11_cut rfl (hM ph hI) ho rfl rfl rfl (by decide) (by omega) (by omega) ?_
  rintro r ph1 ⟨v, rfl, ⟨fs1, ho1⟩, hM2⟩
  show LW p e s m below meth c b G (k + 10) (n + 30000) 194 i [.int v] ph1
  refine LW.a2 C lq_194 ?_
  refine LW.arg (q := 1) (z := 1) C hL hi (by decide) rfl lq_195 lq_196 lq_197 lq_198 lq_199 ?_
  refine LW.call (idx := 22) (pos := 1315) (o := 100) (rest := [.int v]) C lq_200 (by decide +kernel) kX12_cut rfl hM2 ho1 rfl rfl rfl (Nat.le_of_ble_eq_true rfl) (by omega) (by omega) ?_
  rintro r2 ph2 ⟨rfl, hI2⟩
  show LW p e s m below meth c b G (k + 10 + 10) (n + 30000 + 30000) 203 i [.int v, .int v] ph2
  exact LW.eq (o := 622) C lq_203 rfl (kk ph2 hI2)
set_option maxRecDepth 100000 in
theorem lo_read (C : LC p s m meth c b L xs G) (hL : L ≤ 384) (hi : i + 6 ≤ L) (hk : k + 20 ≤ 600000) (hn : n + 60000 ≤ 7302250) (ho : ∃ fs, ph[0]? = some (.inr (11, fs))) (hI : Inv ph) (hM : OP G Inv mX11_read mX12_read []) (kk : ∀ ph', Inv ph' → LW p e s m below meth c b G (k + 20) (n + 60000) 825 i [] ph') : LW p e s m below meth c b G k n 208 i [] ph := by
  obtain ⟨fs0, ho⟩ := ho
  refine LW.a1 C lq_208 ?_
  refine LW.call (idx := 23) (pos := 419) (o := 0) (rest := []) C lq_209 (by decide +kernel) kX11_read rfl (hM ph hI) ho rfl rfl rfl (by decide) (by omega) (by omega) ?_
  rintro r ph1 ⟨v, rfl, ⟨fs1, ho1⟩, hM2⟩
  show LW p e s m below meth c b G (k + 10) (n + 30000) 212 i [.int v] ph1
  refine LW.a2 C lq_212 ?_
  refine LW.call (idx := 27) (pos := 1319) (o := 100) (rest := [.int v]) C lq_213 (by decide +kernel) kX12_read rfl hM2 ho1 rfl rfl rfl (Nat.le_of_ble_eq_true rfl) (by omega) (by omega) ?_
  rintro r2 ph2 ⟨rfl, hI2⟩
  show LW p e s m below meth c b G (k + 10 + 10) (n + 30000 + 30000) 216 i [.int v, .int v] ph2
  exact LW.eq (o := 609) C lq_216 rfl (kk ph2 hI2)
set_option maxRecDepth 100000 in
theorem lo_states (C : LC p s m meth c b L xs G) (hL : L ≤ 384) (hi : i + 6 ≤ L) (hk : k + 20 ≤ 600000) (hn : n + 60000 ≤ 7302250) (ho : ∃ fs, ph[0]? = some (.inr (11, fs))) (hI : Inv ph) (hM : OP G Inv mX11_states mX12_states [.int (xs (i + 1))]) (kk : ∀ ph', Inv ph' → LW p e s m below meth c b G (k + 20) (n + 60000) 825 i [] ph') : LW p e s m below meth c b G k n 221 i [] ph := by
  obtain ⟨fs0, ho⟩ := ho
  refine LW.a1 C lq_221 ?_
  refine LW.arg (q := 1) (z := 1) C hL hi (by decide) rfl lq_222 lq_223 lq_224 lq_225 lq_226 ?_
  refine LW.call (idx := 28) (pos := 612) (o := 0) (rest := []) C lq_227 (by decide +kernel) kX11_states rfl (hM ph hI) ho rfl rfl rfl (by decide) (by omega) (by omega) ?_
  rintro r ph1 ⟨v, rfl, ⟨fs1, ho1⟩, hM2⟩
  show LW p e s m below meth c b G (k + 10) (n + 30000) 230 i [.int v] ph1
  refine LW.a2 C lq_230 ?_
  refine LW.arg (q := 1) (z := 1) C hL hi (by decide) rfl lq_231 lq_232 lq_233 lq_234 lq_235 ?_
  refine LW.call (idx := 31) (pos := 1387) (o := 100) (rest := [.int v]) C lq_236 (by decide +kernel) kX12_states rfl hM2 ho1 rfl rfl rfl (Nat.le_of_ble_eq_true rfl) (by omega) (by omega) ?_
  rintro r2 ph2 ⟨rfl, hI2⟩
  show LW p e s m below meth c b G (k + 10 + 10) (n + 30000 + 30000) 239 i [.int v, .int v] ph2
  exact LW.eq (o := 586) C lq_239 rfl (kk ph2 hI2)
set_option maxRecDepth 100000 in
theorem lo_next (C : LC p s m meth c b L xs G) (hL : L ≤ 384) (hi : i + 6 ≤ L) (hk : k + 20 ≤ 600000) (hn : n + 60000 ≤ 7302250) (ho : ∃ fs, ph[0]? = some (.inr (11, fs))) (hI : Inv ph) (hM : OP G Inv mX11_next mX12_next [.int (xs (i + 1)), .int (xs (i + 2)), .int (xs (i + 3))]) (kk : ∀ ph', Inv ph' → LW p e s m below meth c b G (k + 20) (n + 60000) 825 i [] ph') : LW p e s m below meth c b G k n 244 i [] ph := by
  obtain ⟨fs0, ho⟩ := ho
  refine LW.a1 C lq_244 ?_
  refine LW.arg (q := 1) (z := 1) C hL hi (by decide) rfl lq_245 lq_246 lq_247 lq_248 lq_249 ?_
  refine LW.arg (q := 2) (z := 2) C hL hi (by decide) rfl lq_250 lq_251 lq_252 lq_253 lq_254 ?_
  refine LW.arg (q := 3) (z := 3) C hL hi (by decide) rfl lq_255 lq_256 lq_257 lq_258 lq_259 ?_
  refine LW.call (idx := 32) (pos := 621) (o := 0) (rest := []) C lq_260 (by decide +kernel) kX11_next rfl (hM ph hI) ho rfl rfl rfl (by decide) (by omega) (by omega) ?_
  rintro r ph1 ⟨v, rfl, ⟨fs1, ho1⟩, hM2⟩
  show LW p e s m below meth c b G (k + 10) (n + 30000) 263 i [.int v] ph1
  refine LW.a2 C lq_263 ?_
  refine LW.arg (q := 1) (z := 1) C hL hi (by decide) rfl lq_264 lq_265 lq_266 lq_267 lq_268 ?_
  refine LW.arg (q := 2) (z := 2) C hL hi (by decide) rfl lq_269 lq_270 lq_271 lq_272 lq_273 ?_
  refine LW.arg (q := 3) (z := 3) C hL hi (by decide) rfl lq_274 lq_275 lq_276 lq_277 lq_278 ?_
  refine LW.call (idx := 36) (pos := 1395) (o := 100) (rest := [.int v]) C lq_279 (by decide +kernel) kX12_next rfl hM2 ho1 rfl rfl rfl (Nat.le_of_ble_eq_true rfl) (by omega) (by omega) ?_
  rintro r2 ph2 ⟨rfl, hI2⟩
  show LW p e s m below meth c b G (k + 10 + 10) (n + 30000 + 30000) 282 i [.int v, .int v] ph2
  exact LW.eq (o := 543) C lq_282 rfl (kk ph2 hI2)
set_option maxRecDepth 100000 in
theorem lo_ends (C : LC p s m meth c b L xs G) (hL : L ≤ 384) (hi : i + 6 ≤ L) (hk : k + 20 ≤ 600000) (hn : n + 60000 ≤ 7302250) (ho : ∃ fs, ph[0]? = some (.inr (11, fs))) (hI : Inv ph) (hM : OP G Inv mX11_ends mX12_ends [.int (xs (i + 1)), .int (xs (i + 2))]) (kk : ∀ ph', Inv ph' → LW p e s m below meth c b G (k + 20) (n + 60000) 825 i [] ph') : LW p e s m below meth c b G k n 287 i [] ph := by
  obtain ⟨fs0, ho⟩ := ho
  refine LW.a1 C lq_287 ?_
  refine LW.arg (q := 1) (z := 1) C hL hi (by decide) rfl lq_288 lq_289 lq_290 lq_291 lq_292 ?_
  refine LW.arg (q := 2) (z := 2) C hL hi (by decide) rfl lq_293 lq_294 lq_295 lq_296 lq_297 ?_
  refine LW.call (idx := 37) (pos := 629) (o := 0) (rest := []) C lq_298 (by decide +kernel) kX11_ends rfl (hM ph hI) ho rfl rfl rfl (by decide) (by omega) (by omega) ?_
  rintro r ph1 ⟨v, rfl, ⟨fs1, ho1⟩, hM2⟩
  show LW p e s m below meth c b G (k + 10) (n + 30000) 301 i [.int v] ph1
  refine LW.a2 C lq_301 ?_
  refine LW.arg (q := 1) (z := 1) C hL hi (by decide) rfl lq_302 lq_303 lq_304 lq_305 lq_306 ?_
  refine LW.arg (q := 2) (z := 2) C hL hi (by decide) rfl lq_307 lq_308 lq_309 lq_310 lq_311 ?_
  refine LW.call (idx := 41) (pos := 1407) (o := 100) (rest := [.int v]) C lq_312 (by decide +kernel) kX12_ends rfl hM2 ho1 rfl rfl rfl (Nat.le_of_ble_eq_true rfl) (by omega) (by omega) ?_
  rintro r2 ph2 ⟨rfl, hI2⟩
  show LW p e s m below meth c b G (k + 10 + 10) (n + 30000 + 30000) 315 i [.int v, .int v] ph2
  exact LW.eq (o := 510) C lq_315 rfl (kk ph2 hI2)
set_option maxRecDepth 100000 in
theorem lo_sees (C : LC p s m meth c b L xs G) (hL : L ≤ 384) (hi : i + 6 ≤ L) (hk : k + 20 ≤ 600000) (hn : n + 60000 ≤ 7302250) (ho : ∃ fs, ph[0]? = some (.inr (11, fs))) (hI : Inv ph) (hM : OP G Inv mX11_sees mX12_sees [.int (xs (i + 1))]) (kk : ∀ ph', Inv ph' → LW p e s m below meth c b G (k + 20) (n + 60000) 825 i [] ph') : LW p e s m below meth c b G k n 320 i [] ph := by
  obtain ⟨fs0, ho⟩ := ho
  refine LW.a1 C lq_320 ?_
  refine LW.arg (q := 1) (z := 1) C hL hi (by decide) rfl lq_321 lq_322 lq_323 lq_324 lq_325 ?_
  refine LW.call (idx := 42) (pos := 637) (o := 0) (rest := []) C lq_326 (by decide +kernel) kX11_sees rfl (hM ph hI) ho rfl rfl rfl (by decide) (by omega) (by omega) ?_
  rintro r ph1 ⟨v, rfl, ⟨fs1, ho1⟩, hM2⟩
  show LW p e s m below meth c b G (k + 10) (n + 30000) 329 i [.int v] ph1
  refine LW.a2 C lq_329 ?_
  refine LW.arg (q := 1) (z := 1) C hL hi (by decide) rfl lq_330 lq_331 lq_332 lq_333 lq_334 ?_
  refine LW.call (idx := 45) (pos := 1411) (o := 100) (rest := [.int v]) C lq_335 (by decide +kernel) kX12_sees rfl hM2 ho1 rfl rfl rfl (Nat.le_of_ble_eq_true rfl) (by omega) (by omega) ?_
  rintro r2 ph2 ⟨rfl, hI2⟩
  show LW p e s m below meth c b G (k + 10 + 10) (n + 30000 + 30000) 338 i [.int v, .int v] ph2
  exact LW.eq (o := 487) C lq_338 rfl (kk ph2 hI2)
set_option maxRecDepth 100000 in
theorem lo_compare (C : LC p s m meth c b L xs G) (hL : L ≤ 384) (hi : i + 6 ≤ L) (hk : k + 20 ≤ 600000) (hn : n + 60000 ≤ 7302250) (ho : ∃ fs, ph[0]? = some (.inr (11, fs))) (hI : Inv ph) (hM : OP G Inv mX11_compare mX12_compare [.int (xs (i + 1)), .int (xs (i + 2))]) (kk : ∀ ph', Inv ph' → LW p e s m below meth c b G (k + 20) (n + 60000) 825 i [] ph') : LW p e s m below meth c b G k n 343 i [] ph := by
  obtain ⟨fs0, ho⟩ := ho
  refine LW.a1 C lq_343 ?_
  refine LW.arg (q := 1) (z := 1) C hL hi (by decide) rfl lq_344 lq_345 lq_346 lq_347 lq_348 ?_
  refine LW.arg (q := 2) (z := 2) C hL hi (by decide) rfl lq_349 lq_350 lq_351 lq_352 lq_353 ?_
  refine LW.call (idx := 46) (pos := 641) (o := 0) (rest := []) C lq_354 (by decide +kernel) kX11_compare rfl (hM ph hI) ho rfl rfl rfl (by decide) (by omega) (by omega) ?_
  rintro r ph1 ⟨v, rfl, ⟨fs1, ho1⟩, hM2⟩
  show LW p e s m below meth c b G (k + 10) (n + 30000) 357 i [.int v] ph1
  refine LW.a2 C lq_357 ?_
  refine LW.arg (q := 1) (z := 1) C hL hi (by decide) rfl lq_358 lq_359 lq_360 lq_361 lq_362 ?_
  refine LW.arg (q := 2) (z := 2) C hL hi (by decide) rfl lq_363 lq_364 lq_365 lq_366 lq_367 ?_
  refine LW.call (idx := 49) (pos := 1419) (o := 100) (rest := [.int v]) C lq_368 (by decide +kernel) kX12_compare rfl hM2 ho1 rfl rfl rfl (Nat.le_of_ble_eq_true rfl) (by omega) (by omega) ?_
  rintro r2 ph2 ⟨rfl, hI2⟩
  show LW p e s m below meth c b G (k + 10 + 10) (n + 30000 + 30000) 371 i [.int v, .int v] ph2
  exact LW.eq (o := 454) C lq_371 rfl (kk ph2 hI2)
set_option maxRecDepth 100000 in
theorem lo_witness (C : LC p s m meth c b L xs G) (hL : L ≤ 384) (hi : i + 6 ≤ L) (hk : k + 20 ≤ 600000) (hn : n + 60000 ≤ 7302250) (ho : ∃ fs, ph[0]? = some (.inr (11, fs))) (hI : Inv ph) (hM : OP G Inv mX11_witness mX12_witness [.int (xs (i + 1))]) (kk : ∀ ph', Inv ph' → LW p e s m below meth c b G (k + 20) (n + 60000) 825 i [] ph') : LW p e s m below meth c b G k n 376 i [] ph := by
  obtain ⟨fs0, ho⟩ := ho
  refine LW.a1 C lq_376 ?_
  refine LW.arg (q := 1) (z := 1) C hL hi (by decide) rfl lq_377 lq_378 lq_379 lq_380 lq_381 ?_
  refine LW.call (idx := 50) (pos := 663) (o := 0) (rest := []) C lq_382 (by decide +kernel) kX11_witness rfl (hM ph hI) ho rfl rfl rfl (by decide) (by omega) (by omega) ?_
  rintro r ph1 ⟨v, rfl, ⟨fs1, ho1⟩, hM2⟩
  show LW p e s m below meth c b G (k + 10) (n + 30000) 385 i [.int v] ph1
  refine LW.a2 C lq_385 ?_
  refine LW.arg (q := 1) (z := 1) C hL hi (by decide) rfl lq_386 lq_387 lq_388 lq_389 lq_390 ?_
  refine LW.call (idx := 53) (pos := 1435) (o := 100) (rest := [.int v]) C lq_391 (by decide +kernel) kX12_witness rfl hM2 ho1 rfl rfl rfl (Nat.le_of_ble_eq_true rfl) (by omega) (by omega) ?_
  rintro r2 ph2 ⟨rfl, hI2⟩
  show LW p e s m below meth c b G (k + 10 + 10) (n + 30000 + 30000) 394 i [.int v, .int v] ph2
  exact LW.eq (o := 431) C lq_394 rfl (kk ph2 hI2)
set_option maxRecDepth 100000 in
theorem lo_step (C : LC p s m meth c b L xs G) (hL : L ≤ 384) (hi : i + 6 ≤ L) (hk : k + 20 ≤ 600000) (hn : n + 60000 ≤ 7302250) (ho : ∃ fs, ph[0]? = some (.inr (11, fs))) (hI : Inv ph) (hM : OP G Inv mX11_step mX12_step [.int (xs (i + 1)), .int (xs (i + 2)), .int (xs (i + 3)), .int (xs (i + 4)), .int (xs (i + 5))]) (kk : ∀ ph', Inv ph' → LW p e s m below meth c b G (k + 20) (n + 60000) 825 i [] ph') : LW p e s m below meth c b G k n 399 i [] ph := by
  obtain ⟨fs0, ho⟩ := ho
  refine LW.a1 C lq_399 ?_
  refine LW.arg (q := 1) (z := 1) C hL hi (by decide) rfl lq_400 lq_401 lq_402 lq_403 lq_404 ?_
  refine LW.arg (q := 2) (z := 2) C hL hi (by decide) rfl lq_405 lq_406 lq_407 lq_408 lq_409 ?_
  refine LW.arg (q := 3) (z := 3) C hL hi (by decide) rfl lq_410 lq_411 lq_412 lq_413 lq_414 ?_
  refine LW.arg (q := 4) (z := 4) C hL hi (by decide) rfl lq_415 lq_416 lq_417 lq_418 lq_419 ?_
  refine LW.arg (q := 5) (z := 5) C hL hi (by decide) rfl lq_420 lq_421 lq_422 lq_423 lq_424 ?_
  refine LW.call (idx := 54) (pos := 672) (o := 0) (rest := []) C lq_425 (by decide +kernel) kX11_step rfl (hM ph hI) ho rfl rfl rfl (by decide) (by omega) (by omega) ?_
  rintro r ph1 ⟨v, rfl, ⟨fs1, ho1⟩, hM2⟩
  show LW p e s m below meth c b G (k + 10) (n + 30000) 428 i [.int v] ph1
  refine LW.a2 C lq_428 ?_
  refine LW.arg (q := 1) (z := 1) C hL hi (by decide) rfl lq_429 lq_430 lq_431 lq_432 lq_433 ?_
  refine LW.arg (q := 2) (z := 2) C hL hi (by decide) rfl lq_434 lq_435 lq_436 lq_437 lq_438 ?_
  refine LW.arg (q := 3) (z := 3) C hL hi (by decide) rfl lq_439 lq_440 lq_441 lq_442 lq_443 ?_
  refine LW.arg (q := 4) (z := 4) C hL hi (by decide) rfl lq_444 lq_445 lq_446 lq_447 lq_448 ?_
  refine LW.arg (q := 5) (z := 5) C hL hi (by decide) rfl lq_449 lq_450 lq_451 lq_452 lq_453 ?_
  refine LW.call (idx := 58) (pos := 1439) (o := 100) (rest := [.int v]) C lq_454 (by decide +kernel) kX12_step rfl hM2 ho1 rfl rfl rfl (Nat.le_of_ble_eq_true rfl) (by omega) (by omega) ?_
  rintro r2 ph2 ⟨rfl, hI2⟩
  show LW p e s m below meth c b G (k + 10 + 10) (n + 30000 + 30000) 457 i [.int v, .int v] ph2
  exact LW.eq (o := 368) C lq_457 rfl (kk ph2 hI2)
set_option maxRecDepth 100000 in
theorem lo_plain (C : LC p s m meth c b L xs G) (hL : L ≤ 384) (hi : i + 6 ≤ L) (hk : k + 20 ≤ 600000) (hn : n + 60000 ≤ 7302250) (ho : ∃ fs, ph[0]? = some (.inr (11, fs))) (hI : Inv ph) (hM : OP G Inv mX11_plain mX12_plain [.int (xs (i + 1))]) (kk : ∀ ph', Inv ph' → LW p e s m below meth c b G (k + 20) (n + 60000) 825 i [] ph') : LW p e s m below meth c b G k n 462 i [] ph := by
  obtain ⟨fs0, ho⟩ := ho
  refine LW.a1 C lq_462 ?_
  refine LW.arg (q := 1) (z := 1) C hL hi (by decide) rfl lq_463 lq_464 lq_465 lq_466 lq_467 ?_
  refine LW.call (idx := 59) (pos := 680) (o := 0) (rest := []) C lq_468 (by decide +kernel) kX11_plain rfl (hM ph hI) ho rfl rfl rfl (by decide) (by omega) (by omega) ?_
  rintro r ph1 ⟨v, rfl, ⟨fs1, ho1⟩, hM2⟩
  show LW p e s m below meth c b G (k + 10) (n + 30000) 471 i [.int v] ph1
  refine LW.a2 C lq_471 ?_
  refine LW.arg (q := 1) (z := 1) C hL hi (by decide) rfl lq_472 lq_473 lq_474 lq_475 lq_476 ?_
  refine LW.call (idx := 62) (pos := 1443) (o := 100) (rest := [.int v]) C lq_477 (by decide +kernel) kX12_plain rfl hM2 ho1 rfl rfl rfl (Nat.le_of_ble_eq_true rfl) (by omega) (by omega) ?_
  rintro r2 ph2 ⟨rfl, hI2⟩
  show LW p e s m below meth c b G (k + 10 + 10) (n + 30000 + 30000) 480 i [.int v, .int v] ph2
  exact LW.eq (o := 345) C lq_480 rfl (kk ph2 hI2)
set_option maxRecDepth 100000 in
theorem lo_infer (C : LC p s m meth c b L xs G) (hL : L ≤ 384) (hi : i + 6 ≤ L) (hk : k + 20 ≤ 600000) (hn : n + 60000 ≤ 7302250) (ho : ∃ fs, ph[0]? = some (.inr (11, fs))) (hI : Inv ph) (hM : OP G Inv mX11_infer mX12_infer [.int (xs (i + 1))]) (kk : ∀ ph', Inv ph' → LW p e s m below meth c b G (k + 20) (n + 60000) 825 i [] ph') : LW p e s m below meth c b G k n 485 i [] ph := by
  obtain ⟨fs0, ho⟩ := ho
  refine LW.a1 C lq_485 ?_
  refine LW.arg (q := 1) (z := 1) C hL hi (by decide) rfl lq_486 lq_487 lq_488 lq_489 lq_490 ?_
  refine LW.call (idx := 63) (pos := 693) (o := 0) (rest := []) C lq_491 (by decide +kernel) kX11_infer rfl (hM ph hI) ho rfl rfl rfl (by decide) (by omega) (by omega) ?_
  rintro r ph1 ⟨v, rfl, ⟨fs1, ho1⟩, hM2⟩
  show LW p e s m below meth c b G (k + 10) (n + 30000) 494 i [.int v] ph1
  refine LW.a2 C lq_494 ?_
  refine LW.arg (q := 1) (z := 1) C hL hi (by decide) rfl lq_495 lq_496 lq_497 lq_498 lq_499 ?_
  refine LW.call (idx := 66) (pos := 1451) (o := 100) (rest := [.int v]) C lq_500 (by decide +kernel) kX12_infer rfl hM2 ho1 rfl rfl rfl (Nat.le_of_ble_eq_true rfl) (by omega) (by omega) ?_
  rintro r2 ph2 ⟨rfl, hI2⟩
  show LW p e s m below meth c b G (k + 10 + 10) (n + 30000 + 30000) 503 i [.int v, .int v] ph2
  exact LW.eq (o := 322) C lq_503 rfl (kk ph2 hI2)
set_option maxRecDepth 100000 in
theorem lo_op (C : LC p s m meth c b L xs G) (hL : L ≤ 384) (hi : i + 6 ≤ L) (hk : k + 20 ≤ 600000) (hn : n + 60000 ≤ 7302250) (ho : ∃ fs, ph[0]? = some (.inr (11, fs))) (hI : Inv ph) (hM : OP G Inv mX11_op mX12_op [.int (xs (i + 1)), .int (xs (i + 2)), .int (xs (i + 3)), .int (xs (i + 4)), .int (xs (i + 5))]) (kk : ∀ ph', Inv ph' → LW p e s m below meth c b G (k + 20) (n + 60000) 825 i [] ph') : LW p e s m below meth c b G k n 508 i [] ph := by
  obtain ⟨fs0, ho⟩ := ho
  refine LW.a1 C lq_508 ?_
  refine LW.arg (q := 1) (z := 1) C hL hi (by decide) rfl lq_509 lq_510 lq_511 lq_512 lq_513 ?_
  refine LW.arg (q := 2) (z := 2) C hL hi (by decide) rfl lq_514 lq_515 lq_516 lq_517 lq_518 ?_
  refine LW.arg (q := 3) (z := 3) C hL hi (by decide) rfl lq_519 lq_520 lq_521 lq_522 lq_523 ?_
  refine LW.arg (q := 4) (z := 4) C hL hi (by decide) rfl lq_524 lq_525 lq_526 lq_527 lq_528 ?_
  refine LW.arg (q := 5) (z := 5) C hL hi (by decide) rfl lq_529 lq_530 lq_531 lq_532 lq_533 ?_
  refine LW.call (idx := 67) (pos := 708) (o := 0) (rest := []) C lq_534 (by decide +kernel) kX11_op rfl (hM ph hI) ho rfl rfl rfl (by decide) (by omega) (by omega) ?_
  rintro r ph1 ⟨v, rfl, ⟨fs1, ho1⟩, hM2⟩
  show LW p e s m below meth c b G (k + 10) (n + 30000) 537 i [.int v] ph1
  refine LW.a2 C lq_537 ?_
  refine LW.arg (q := 1) (z := 1) C hL hi (by decide) rfl lq_538 lq_539 lq_540 lq_541 lq_542 ?_
  refine LW.arg (q := 2) (z := 2) C hL hi (by decide) rfl lq_543 lq_544 lq_545 lq_546 lq_547 ?_
  refine LW.arg (q := 3) (z := 3) C hL hi (by decide) rfl lq_548 lq_549 lq_550 lq_551 lq_552 ?_
  refine LW.arg (q := 4) (z := 4) C hL hi (by decide) rfl lq_553 lq_554 lq_555 lq_556 lq_557 ?_
  refine LW.arg (q := 5) (z := 5) C hL hi (by decide) rfl lq_558 lq_559 lq_560 lq_561 lq_562 ?_
  refine LW.call (idx := 70) (pos := 1459) (o := 100) (rest := [.int v]) C lq_563 (by decide +kernel) kX12_op rfl hM2 ho1 rfl rfl rfl (Nat.le_of_ble_eq_true rfl) (by omega) (by omega) ?_
  rintro r2 ph2 ⟨rfl, hI2⟩
  show LW p e s m below meth c b G (k + 10 + 10) (n + 30000 + 30000) 566 i [.int v, .int v] ph2
  exact LW.eq (o := 259) C lq_566 rfl (kk ph2 hI2)
set_option maxRecDepth 100000 in
theorem lo_wipe (C : LC p s m meth c b L xs G) (hL : L ≤ 384) (hi : i + 6 ≤ L) (hk : k + 20 ≤ 600000) (hn : n + 60000 ≤ 7302250) (ho : ∃ fs, ph[0]? = some (.inr (11, fs))) (hI : Inv ph) (hM : OP G Inv mX11_wipe mX12_wipe [.int (xs (i + 1))]) (kk : ∀ ph', Inv ph' → LW p e s m below meth c b G (k + 20) (n + 60000) 825 i [] ph') : LW p e s m below meth c b G k n 571 i [] ph := by
  obtain ⟨fs0, ho⟩ := ho
  refine LW.a1 C lq_571 ?_
  refine LW.arg (q := 1) (z := 1) C hL hi (by decide) rfl lq_572 lq_573 lq_574 lq_575 lq_576 ?_
  refine LW.call (idx := 71) (pos := 719) (o := 0) (rest := []) C lq_577 (by decide +kernel) kX11_wipe rfl (hM ph hI) ho rfl rfl rfl (by decide) (by omega) (by omega) ?_
  rintro r ph1 ⟨v, rfl, ⟨fs1, ho1⟩, hM2⟩
  show LW p e s m below meth c b G (k + 10) (n + 30000) 580 i [.int v] ph1
  refine LW.a2 C lq_580 ?_
  refine LW.arg (q := 1) (z := 1) C hL hi (by decide) rfl lq_581 lq_582 lq_583 lq_584 lq_585 ?_
  refine LW.call (idx := 74) (pos := 1469) (o := 100) (rest := [.int v]) C lq_586 (by decide +kernel) kX12_wipe rfl hM2 ho1 rfl rfl rfl (Nat.le_of_ble_eq_true rfl) (by omega) (by omega) ?_
  rintro r2 ph2 ⟨rfl, hI2⟩
  show LW p e s m below meth c b G (k + 10 + 10) (n + 30000 + 30000) 589 i [.int v, .int v] ph2
  exact LW.eq (o := 236) C lq_589 rfl (kk ph2 hI2)
set_option maxRecDepth 100000 in
theorem lo_judge (C : LC p s m meth c b L xs G) (hL : L ≤ 384) (hi : i + 6 ≤ L) (hk : k + 20 ≤ 600000) (hn : n + 60000 ≤ 7302250) (ho : ∃ fs, ph[0]? = some (.inr (11, fs))) (hI : Inv ph) (hM : OP G Inv mX11_judge mX12_judge [.int (xs (i + 1)), .int (xs (i + 2)), .int (xs (i + 3))]) (kk : ∀ ph', Inv ph' → LW p e s m below meth c b G (k + 20) (n + 60000) 825 i [] ph') : LW p e s m below meth c b G k n 594 i [] ph := by
  obtain ⟨fs0, ho⟩ := ho
  refine LW.a1 C lq_594 ?_
  refine LW.arg (q := 1) (z := 1) C hL hi (by decide) rfl lq_595 lq_596 lq_597 lq_598 lq_599 ?_
  refine LW.arg (q := 2) (z := 2) C hL hi (by decide) rfl lq_600 lq_601 lq_602 lq_603 lq_604 ?_
  refine LW.arg (q := 3) (z := 3) C hL hi (by decide) rfl lq_605 lq_606 lq_607 lq_608 lq_609 ?_
  refine LW.call (idx := 75) (pos := 727) (o := 0) (rest := []) C lq_610 (by decide +kernel) kX11_judge rfl (hM ph hI) ho rfl rfl rfl (by decide) (by omega) (by omega) ?_
  rintro r ph1 ⟨v, rfl, ⟨fs1, ho1⟩, hM2⟩
  show LW p e s m below meth c b G (k + 10) (n + 30000) 613 i [.int v] ph1
  refine LW.a2 C lq_613 ?_
  refine LW.arg (q := 1) (z := 1) C hL hi (by decide) rfl lq_614 lq_615 lq_616 lq_617 lq_618 ?_
  refine LW.arg (q := 2) (z := 2) C hL hi (by decide) rfl lq_619 lq_620 lq_621 lq_622 lq_623 ?_
  refine LW.arg (q := 3) (z := 3) C hL hi (by decide) rfl lq_624 lq_625 lq_626 lq_627 lq_628 ?_
  refine LW.call (idx := 78) (pos := 1473) (o := 100) (rest := [.int v]) C lq_629 (by decide +kernel) kX12_judge rfl hM2 ho1 rfl rfl rfl (Nat.le_of_ble_eq_true rfl) (by omega) (by omega) ?_
  rintro r2 ph2 ⟨rfl, hI2⟩
  show LW p e s m below meth c b G (k + 10 + 10) (n + 30000 + 30000) 632 i [.int v, .int v] ph2
  exact LW.eq (o := 193) C lq_632 rfl (kk ph2 hI2)
set_option maxRecDepth 100000 in
theorem lo_shapes (C : LC p s m meth c b L xs G) (hL : L ≤ 384) (hi : i + 6 ≤ L) (hk : k + 20 ≤ 600000) (hn : n + 60000 ≤ 7302250) (ho : ∃ fs, ph[0]? = some (.inr (11, fs))) (hI : Inv ph) (hM : OP G Inv mX11_shapes mX12_shapes []) (kk : ∀ ph', Inv ph' → LW p e s m below meth c b G (k + 20) (n + 60000) 825 i [] ph') : LW p e s m below meth c b G k n 637 i [] ph := by
  obtain ⟨fs0, ho⟩ := ho
  refine LW.a1 C lq_637 ?_
  refine LW.call (idx := 79) (pos := 941) (o := 0) (rest := []) C lq_638 (by decide +kernel) kX11_shapes rfl (hM ph hI) ho rfl rfl rfl (by decide) (by omega) (by omega) ?_
  rintro r ph1 ⟨v, rfl, ⟨fs1, ho1⟩, hM2⟩
  show LW p e s m below meth c b G (k + 10) (n + 30000) 641 i [.int v] ph1
  refine LW.a2 C lq_641 ?_
  refine LW.call (idx := 82) (pos := 1532) (o := 100) (rest := [.int v]) C lq_642 (by decide +kernel) kX12_shapes rfl hM2 ho1 rfl rfl rfl (Nat.le_of_ble_eq_true rfl) (by omega) (by omega) ?_
  rintro r2 ph2 ⟨rfl, hI2⟩
  show LW p e s m below meth c b G (k + 10 + 10) (n + 30000 + 30000) 645 i [.int v, .int v] ph2
  exact LW.eq (o := 180) C lq_645 rfl (kk ph2 hI2)
set_option maxRecDepth 100000 in
theorem lo_way (C : LC p s m meth c b L xs G) (hL : L ≤ 384) (hi : i + 6 ≤ L) (hk : k + 20 ≤ 600000) (hn : n + 60000 ≤ 7302250) (ho : ∃ fs, ph[0]? = some (.inr (11, fs))) (hI : Inv ph) (hM : OP G Inv mX11_way mX12_way [.int (xs (i + 1))]) (kk : ∀ ph', Inv ph' → LW p e s m below meth c b G (k + 20) (n + 60000) 825 i [] ph') : LW p e s m below meth c b G k n 650 i [] ph := by
  obtain ⟨fs0, ho⟩ := ho
  refine LW.a1 C lq_650 ?_
  refine LW.arg (q := 1) (z := 1) C hL hi (by decide) rfl lq_651 lq_652 lq_653 lq_654 lq_655 ?_
  refine LW.call (idx := 83) (pos := 945) (o := 0) (rest := []) C lq_656 (by decide +kernel) kX11_way rfl (hM ph hI) ho rfl rfl rfl (by decide) (by omega) (by omega) ?_
  rintro r ph1 ⟨v, rfl, ⟨fs1, ho1⟩, hM2⟩
  show LW p e s m below meth c b G (k + 10) (n + 30000) 659 i [.int v] ph1
  refine LW.a2 C lq_659 ?_
  refine LW.arg (q := 1) (z := 1) C hL hi (by decide) rfl lq_660 lq_661 lq_662 lq_663 lq_664 ?_
  refine LW.call (idx := 86) (pos := 1536) (o := 100) (rest := [.int v]) C lq_665 (by decide +kernel) kX12_way rfl hM2 ho1 rfl rfl rfl (Nat.le_of_ble_eq_true rfl) (by omega) (by omega) ?_
  rintro r2 ph2 ⟨rfl, hI2⟩
  show LW p e s m below meth c b G (k + 10 + 10) (n + 30000 + 30000) 668 i [.int v, .int v] ph2
  exact LW.eq (o := 157) C lq_668 rfl (kk ph2 hI2)
set_option maxRecDepth 100000 in
theorem lo_draw (C : LC p s m meth c b L xs G) (hL : L ≤ 384) (hi : i + 6 ≤ L) (hk : k + 20 ≤ 600000) (hn : n + 60000 ≤ 7302250) (ho : ∃ fs, ph[0]? = some (.inr (11, fs))) (hI : Inv ph) (hM : OP G Inv mX11_draw mX12_draw [.int (xs (i + 1)), .int (xs (i + 2)), .int (xs (i + 3)), .int (xs (i + 4)), .int (xs (i + 5))]) (kk : ∀ ph', Inv ph' → LW p e s m below meth c b G (k + 20) (n + 60000) 825 i [] ph') : LW p e s m below meth c b G k n 673 i [] ph := by
  obtain ⟨fs0, ho⟩ := ho
  refine LW.a1 C lq_673 ?_
  refine LW.arg (q := 1) (z := 1) C hL hi (by decide) rfl lq_674 lq_675 lq_676 lq_677 lq_678 ?_
  refine LW.arg (q := 2) (z := 2) C hL hi (by decide) rfl lq_679 lq_680 lq_681 lq_682 lq_683 ?_
  refine LW.arg (q := 3) (z := 3) C hL hi (by decide) rfl lq_684 lq_685 lq_686 lq_687 lq_688 ?_
  refine LW.arg (q := 4) (z := 4) C hL hi (by decide) rfl lq_689 lq_690 lq_691 lq_692 lq_693 ?_
  refine LW.arg (q := 5) (z := 5) C hL hi (by decide) rfl lq_694 lq_695 lq_696 lq_697 lq_698 ?_
  refine LW.call (idx := 87) (pos := 953) (o := 0) (rest := []) C lq_699 (by decide +kernel) kX11_draw rfl (hM ph hI) ho rfl rfl rfl (by decide) (by omega) (by omega) ?_
  rintro r ph1 ⟨v, rfl, ⟨fs1, ho1⟩, hM2⟩
  show LW p e s m below meth c b G (k + 10) (n + 30000) 702 i [.int v] ph1
  refine LW.a2 C lq_702 ?_
  refine LW.arg (q := 1) (z := 1) C hL hi (by decide) rfl lq_703 lq_704 lq_705 lq_706 lq_707 ?_
  refine LW.arg (q := 2) (z := 2) C hL hi (by decide) rfl lq_708 lq_709 lq_710 lq_711 lq_712 ?_
  refine LW.arg (q := 3) (z := 3) C hL hi (by decide) rfl lq_713 lq_714 lq_715 lq_716 lq_717 ?_
  refine LW.arg (q := 4) (z := 4) C hL hi (by decide) rfl lq_718 lq_719 lq_720 lq_721 lq_722 ?_
  refine LW.arg (q := 5) (z := 5) C hL hi (by decide) rfl lq_723 lq_724 lq_725 lq_726 lq_727 ?_
  refine LW.call (idx := 90) (pos := 1540) (o := 100) (rest := [.int v]) C lq_728 (by decide +kernel) kX12_draw rfl hM2 ho1 rfl rfl rfl (Nat.le_of_ble_eq_true rfl) (by omega) (by omega) ?_
  rintro r2 ph2 ⟨rfl, hI2⟩
  show LW p e s m below meth c b G (k + 10 + 10) (n + 30000 + 30000) 731 i [.int v, .int v] ph2
  exact LW.eq (o := 94) C lq_731 rfl (kk ph2 hI2)
set_option maxRecDepth 100000 in
theorem lo_counted (C : LC p s m meth c b L xs G) (hL : L ≤ 384) (hi : i + 6 ≤ L) (hk : k + 20 ≤ 600000) (hn : n + 60000 ≤ 7302250) (ho : ∃ fs, ph[0]? = some (.inr (11, fs))) (hI : Inv ph) (hM : OP G Inv mX11_counted mX12_counted [.int (xs (i + 1)), .int (xs (i + 2)), .int (xs (i + 3)), .int (xs (i + 4))]) (kk : ∀ ph', Inv ph' → LW p e s m below meth c b G (k + 20) (n + 60000) 825 i [] ph') : LW p e s m below meth c b G k n 736 i [] ph := by
  obtain ⟨fs0, ho⟩ := ho
  refine LW.a1 C lq_736 ?_
  refine LW.arg (q := 1) (z := 1) C hL hi (by decide) rfl lq_737 lq_738 lq_739 lq_740 lq_741 ?_
  refine LW.arg (q := 2) (z := 2) C hL hi (by decide) rfl lq_742 lq_743 lq_744 lq_745 lq_746 ?_
  refine LW.arg (q := 3) (z := 3) C hL hi (by decide) rfl lq_747 lq_748 lq_749 lq_750 lq_751 ?_
  refine LW.arg (q := 4) (z := 4) C hL hi (by decide) rfl lq_752 lq_753 lq_754 lq_755 lq_756 ?_
  refine LW.call (idx := 91) (pos := 1031) (o := 0) (rest := []) C lq_757 (by decide +kernel) kX11_counted rfl (hM ph hI) ho rfl rfl rfl (by decide) (by omega) (by omega) ?_
  rintro r ph1 ⟨v, rfl, ⟨fs1, ho1⟩, hM2⟩
  show LW p e s m below meth c b G (k + 10) (n + 30000) 760 i [.int v] ph1
  refine LW.a2 C lq_760 ?_
  refine LW.arg (q := 1) (z := 1) C hL hi (by decide) rfl lq_761 lq_762 lq_763 lq_764 lq_765 ?_
  refine LW.arg (q := 2) (z := 2) C hL hi (by decide) rfl lq_766 lq_767 lq_768 lq_769 lq_770 ?_
  refine LW.arg (q := 3) (z := 3) C hL hi (by decide) rfl lq_771 lq_772 lq_773 lq_774 lq_775 ?_
  refine LW.arg (q := 4) (z := 4) C hL hi (by decide) rfl lq_776 lq_777 lq_778 lq_779 lq_780 ?_
  refine LW.call (idx := 94) (pos := 1573) (o := 100) (rest := [.int v]) C lq_781 (by decide +kernel) kX12_counted rfl hM2 ho1 rfl rfl rfl (Nat.le_of_ble_eq_true rfl) (by omega) (by omega) ?_
  rintro r2 ph2 ⟨rfl, hI2⟩
  show LW p e s m below meth c b G (k + 10 + 10) (n + 30000 + 30000) 784 i [.int v, .int v] ph2
  exact LW.eq (o := 41) C lq_784 rfl (kk ph2 hI2)
set_option maxRecDepth 100000 in
theorem lo_forget (C : LC p s m meth c b L xs G) (hL : L ≤ 384) (hi : i + 6 ≤ L) (hk : k + 20 ≤ 600000) (hn : n + 60000 ≤ 7302250) (ho : ∃ fs, ph[0]? = some (.inr (11, fs))) (hI : Inv ph) (hM : OP G Inv mX11_forget mX12_forget []) (kk : ∀ ph', Inv ph' → LW p e s m below meth c b G (k + 20) (n + 60000) 825 i [] ph') : LW p e s m below meth c b G k n 789 i [] ph := by
  obtain ⟨fs0, ho⟩ := ho
  refine LW.a1 C lq_789 ?_
  refine LW.call (idx := 95) (pos := 1051) (o := 0) (rest := []) C lq_790 (by decide +kernel) kX11_forget rfl (hM ph hI) ho rfl rfl rfl (by decide) (by omega) (by omega) ?_
  rintro r ph1 ⟨v, rfl, ⟨fs1, ho1⟩, hM2⟩
  show LW p e s m below meth c b G (k + 10) (n + 30000) 793 i [.int v] ph1
  refine LW.a2 C lq_793 ?_
  refine LW.call (idx := 98) (pos := 1577) (o := 100) (rest := [.int v]) C lq_794 (by decide +kernel) kX12_forget rfl hM2 ho1 rfl rfl rfl (Nat.le_of_ble_eq_true rfl) (by omega) (by omega) ?_
  rintro r2 ph2 ⟨rfl, hI2⟩
  show LW p e s m below meth c b G (k + 10 + 10) (n + 30000 + 30000) 797 i [.int v, .int v] ph2
  exact LW.eq (o := 28) C lq_797 rfl (kk ph2 hI2)
set_option maxRecDepth 100000 in
theorem lo_told (C : LC p s m meth c b L xs G) (hL : L ≤ 384) (hi : i + 6 ≤ L) (hk : k + 20 ≤ 600000) (hn : n + 60000 ≤ 7302250) (ho : ∃ fs, ph[0]? = some (.inr (11, fs))) (hI : Inv ph) (hM : OP G Inv mX11_told mX12_told [.int (xs (i + 1))]) (kk : ∀ ph', Inv ph' → LW p e s m below meth c b G (k + 20) (n + 60000) 825 i [] ph') : LW p e s m below meth c b G k n 802 i [] ph := by
  obtain ⟨fs0, ho⟩ := ho
  refine LW.a1 C lq_802 ?_
  refine LW.arg (q := 1) (z := 1) C hL hi (by decide) rfl lq_803 lq_804 lq_805 lq_806 lq_807 ?_
  refine LW.call (idx := 99) (pos := 1060) (o := 0) (rest := []) C lq_808 (by decide +kernel) kX11_told rfl (hM ph hI) ho rfl rfl rfl (by decide) (by omega) (by omega) ?_
  rintro r ph1 ⟨v, rfl, ⟨fs1, ho1⟩, hM2⟩
  show LW p e s m below meth c b G (k + 10) (n + 30000) 811 i [.int v] ph1
  refine LW.a2 C lq_811 ?_
  refine LW.arg (q := 1) (z := 1) C hL hi (by decide) rfl lq_812 lq_813 lq_814 lq_815 lq_816 ?_
  refine LW.call (idx := 102) (pos := 1581) (o := 100) (rest := [.int v]) C lq_817 (by decide +kernel) kX12_told rfl hM2 ho1 rfl rfl rfl (Nat.le_of_ble_eq_true rfl) (by omega) (by omega) ?_
  rintro r2 ph2 ⟨rfl, hI2⟩
  show LW p e s m below meth c b G (k + 10 + 10) (n + 30000 + 30000) 820 i [.int v, .int v] ph2
  exact LW.eq (o := 5) C lq_820 rfl (kk ph2 hI2)
end LAW3
def OPS (G : px_G) (Inv : List px_E → Prop) : Prop := ((∀ ph, Inv ph → ∃ fs, ph[0]? = some (.inr (11, fs)))) ∧ (∀ a b c d : Int32, OP G Inv mX11_feed mX12_feed [.int a, .int b, .int c, .int d]) ∧ (∀ a : Int32, OP G Inv mX11_cut mX12_cut [.int a]) ∧ (OP G Inv mX11_read mX12_read []) ∧ (∀ a : Int32, OP G Inv mX11_states mX12_states [.int a]) ∧ (∀ a b c : Int32, OP G Inv mX11_next mX12_next [.int a, .int b, .int c]) ∧ (∀ a b : Int32, OP G Inv mX11_ends mX12_ends [.int a, .int b]) ∧ (∀ a : Int32, OP G Inv mX11_sees mX12_sees [.int a]) ∧ (∀ a b : Int32, OP G Inv mX11_compare mX12_compare [.int a, .int b]) ∧ (∀ a : Int32, OP G Inv mX11_witness mX12_witness [.int a]) ∧ (∀ a b c d e : Int32, OP G Inv mX11_step mX12_step [.int a, .int b, .int c, .int d, .int e]) ∧ (∀ a : Int32, OP G Inv mX11_plain mX12_plain [.int a]) ∧ (∀ a : Int32, OP G Inv mX11_infer mX12_infer [.int a]) ∧ (∀ a b c d e : Int32, OP G Inv mX11_op mX12_op [.int a, .int b, .int c, .int d, .int e]) ∧ (∀ a : Int32, OP G Inv mX11_wipe mX12_wipe [.int a]) ∧ (∀ a b c : Int32, OP G Inv mX11_judge mX12_judge [.int a, .int b, .int c]) ∧ (OP G Inv mX11_shapes mX12_shapes []) ∧ (∀ a : Int32, OP G Inv mX11_way mX12_way [.int a]) ∧ (∀ a b c d e : Int32, OP G Inv mX11_draw mX12_draw [.int a, .int b, .int c, .int d, .int e]) ∧ (∀ a b c d : Int32, OP G Inv mX11_counted mX12_counted [.int a, .int b, .int c, .int d]) ∧ (OP G Inv mX11_forget mX12_forget []) ∧ (∀ a : Int32, OP G Inv mX11_told mX12_told [.int a])
section LAW3b
variable {p : Program} {e : Env} {s : State} {m : MethodId} {below : List Frame} {meth : Method} {c : Code} {b L : Nat} {xs : Nat → Int32} {G : px_G} {k n pc i : Nat} {st : List Value} {ph : List px_E}
theorem LW_wid {k' n' : Nat} (hk : k ≤ k') (hn : n ≤ n') (h : LW p e s m below meth c b G k' n' pc i st ph) : LW p e s m below meth c b G k n pc i st ph := fun H locs ls hH hS hl => W.widen hk hn (h H locs ls hH hS hl)
theorem lw_lt {L i : Nat} (hL : L ≤ 384) (hi : i ≤ 1000) : nI L - nI 6 < nI i ↔ L < i + 6 := by
  rcases Nat.lt_or_ge L 6 with h | h
  · refine ⟨fun _ => by omega, fun _ => ?_⟩
    rw [Int32.lt_iff_toInt_lt, nI_toInt (by omega)]
    have : (nI L - nI 6).toInt < 0 := by
      rcases (show L = 0 ∨ L = 1 ∨ L = 2 ∨ L = 3 ∨ L = 4 ∨ L = 5 by omega) with rfl | rfl | rfl | rfl | rfl | rfl <;> decide
    omega
  · rw [pk_sub h, nI_ltI (by omega) (by omega)]
    omega
end LAW3b
section LAW4
variable {p : Program} {e : Env} {s : State} {m : MethodId} {below : List Frame} {meth : Method} {c : Code} {b L : Nat} {xs : Nat → Int32} {G : px_G} {k n pc i : Nat} {st : List Value} {ph : List px_E} {Inv : List px_E → Prop}
set_option maxRecDepth 100000 in
theorem lw_turn (C : LC p s m meth c b L xs G) (hO : OPS G Inv) (hL : L ≤ 384) (hi : i + 6 ≤ L) (hk : k + 20 ≤ 600000) (hn : n + 60000 ≤ 7302250) (hI : Inv ph) (kk : ∀ ph', Inv ph' → LW p e s m below meth c b G (k + 20) (n + 60000) 825 i [] ph') : LW p e s m below meth c b G k n 27 i [] ph := by
  have ho := hO.1 ph hI
  refine LW.a0 C lq_27 (LW.i3 C lq_28 (LW.sld C hL (by omega) lq_29 ?_))
  intro H locs ls hH hS hl
  refine lv_bipush C.1.1 C.1.2.1 (lw_d lq_30) rfl (lv_iand C.1.1 C.1.2.1 (lw_d lq_32) ?_)
  generalize hz : xs i &&& (Int8.ofInt 31).toInt32 = z
  by_cases h0 : z.toInt = 0
  · exact lv_tableIn C.1.1 C.1.2.1 (lw_d lq_33) (tgt := 132) (off := 99) (by omega) (by omega) (by rw [h0]; rfl) rfl (lo_feed C hL hi hk hn ho hI (hO.2.1 _ _ _ _) kk H locs ls hH hS hl)
  by_cases h1 : z.toInt = 1
  · exact lv_tableIn C.1.1 C.1.2.1 (lw_d lq_33) (tgt := 185) (off := 152) (by omega) (by omega) (by rw [h1]; rfl) rfl (lo_cut C hL hi hk hn ho hI (hO.2.2.1 _) kk H locs ls hH hS hl)
  by_cases h2 : z.toInt = 2
  · exact lv_tableIn C.1.1 C.1.2.1 (lw_d lq_33) (tgt := 208) (off := 175) (by omega) (by omega) (by rw [h2]; rfl) rfl (lo_read C hL hi hk hn ho hI (hO.2.2.2.1) kk H locs ls hH hS hl)
  by_cases h3 : z.toInt = 3
  · exact lv_tableIn C.1.1 C.1.2.1 (lw_d lq_33) (tgt := 221) (off := 188) (by omega) (by omega) (by rw [h3]; rfl) rfl (lo_states C hL hi hk hn ho hI (hO.2.2.2.2.1 _) kk H locs ls hH hS hl)
  by_cases h4 : z.toInt = 4
  · exact lv_tableIn C.1.1 C.1.2.1 (lw_d lq_33) (tgt := 244) (off := 211) (by omega) (by omega) (by rw [h4]; rfl) rfl (lo_next C hL hi hk hn ho hI (hO.2.2.2.2.2.1 _ _ _) kk H locs ls hH hS hl)
  by_cases h5 : z.toInt = 5
  · exact lv_tableIn C.1.1 C.1.2.1 (lw_d lq_33) (tgt := 287) (off := 254) (by omega) (by omega) (by rw [h5]; rfl) rfl (lo_ends C hL hi hk hn ho hI (hO.2.2.2.2.2.2.1 _ _) kk H locs ls hH hS hl)
  by_cases h6 : z.toInt = 6
  · exact lv_tableIn C.1.1 C.1.2.1 (lw_d lq_33) (tgt := 320) (off := 287) (by omega) (by omega) (by rw [h6]; rfl) rfl (lo_sees C hL hi hk hn ho hI (hO.2.2.2.2.2.2.2.1 _) kk H locs ls hH hS hl)
  by_cases h7 : z.toInt = 7
  · exact lv_tableIn C.1.1 C.1.2.1 (lw_d lq_33) (tgt := 343) (off := 310) (by omega) (by omega) (by rw [h7]; rfl) rfl (lo_compare C hL hi hk hn ho hI (hO.2.2.2.2.2.2.2.2.1 _ _) kk H locs ls hH hS hl)
  by_cases h8 : z.toInt = 8
  · exact lv_tableIn C.1.1 C.1.2.1 (lw_d lq_33) (tgt := 376) (off := 343) (by omega) (by omega) (by rw [h8]; rfl) rfl (lo_witness C hL hi hk hn ho hI (hO.2.2.2.2.2.2.2.2.2.1 _) kk H locs ls hH hS hl)
  by_cases h9 : z.toInt = 9
  · exact lv_tableIn C.1.1 C.1.2.1 (lw_d lq_33) (tgt := 399) (off := 366) (by omega) (by omega) (by rw [h9]; rfl) rfl (lo_step C hL hi hk hn ho hI (hO.2.2.2.2.2.2.2.2.2.2.1 _ _ _ _ _) kk H locs ls hH hS hl)
  by_cases h10 : z.toInt = 10
  · exact lv_tableIn C.1.1 C.1.2.1 (lw_d lq_33) (tgt := 462) (off := 429) (by omega) (by omega) (by rw [h10]; rfl) rfl (lo_plain C hL hi hk hn ho hI (hO.2.2.2.2.2.2.2.2.2.2.2.1 _) kk H locs ls hH hS hl)
  by_cases h11 : z.toInt = 11
  · exact lv_tableIn C.1.1 C.1.2.1 (lw_d lq_33) (tgt := 485) (off := 452) (by omega) (by omega) (by rw [h11]; rfl) rfl (lo_infer C hL hi hk hn ho hI (hO.2.2.2.2.2.2.2.2.2.2.2.2.1 _) kk H locs ls hH hS hl)
  by_cases h12 : z.toInt = 12
  · exact lv_tableIn C.1.1 C.1.2.1 (lw_d lq_33) (tgt := 508) (off := 475) (by omega) (by omega) (by rw [h12]; rfl) rfl (lo_op C hL hi hk hn ho hI (hO.2.2.2.2.2.2.2.2.2.2.2.2.2.1 _ _ _ _ _) kk H locs ls hH hS hl)
  by_cases h13 : z.toInt = 13
  · exact lv_tableIn C.1.1 C.1.2.1 (lw_d lq_33) (tgt := 571) (off := 538) (by omega) (by omega) (by rw [h13]; rfl) rfl (lo_wipe C hL hi hk hn ho hI (hO.2.2.2.2.2.2.2.2.2.2.2.2.2.2.1 _) kk H locs ls hH hS hl)
  by_cases h14 : z.toInt = 14
  · exact lv_tableIn C.1.1 C.1.2.1 (lw_d lq_33) (tgt := 594) (off := 561) (by omega) (by omega) (by rw [h14]; rfl) rfl (lo_judge C hL hi hk hn ho hI (hO.2.2.2.2.2.2.2.2.2.2.2.2.2.2.2.1 _ _ _) kk H locs ls hH hS hl)
  by_cases h15 : z.toInt = 15
  · exact lv_tableIn C.1.1 C.1.2.1 (lw_d lq_33) (tgt := 637) (off := 604) (by omega) (by omega) (by rw [h15]; rfl) rfl (lo_shapes C hL hi hk hn ho hI (hO.2.2.2.2.2.2.2.2.2.2.2.2.2.2.2.2.1) kk H locs ls hH hS hl)
  by_cases h16 : z.toInt = 16
  · exact lv_tableIn C.1.1 C.1.2.1 (lw_d lq_33) (tgt := 650) (off := 617) (by omega) (by omega) (by rw [h16]; rfl) rfl (lo_way C hL hi hk hn ho hI (hO.2.2.2.2.2.2.2.2.2.2.2.2.2.2.2.2.2.1 _) kk H locs ls hH hS hl)
  by_cases h17 : z.toInt = 17
  · exact lv_tableIn C.1.1 C.1.2.1 (lw_d lq_33) (tgt := 673) (off := 640) (by omega) (by omega) (by rw [h17]; rfl) rfl (lo_draw C hL hi hk hn ho hI (hO.2.2.2.2.2.2.2.2.2.2.2.2.2.2.2.2.2.2.1 _ _ _ _ _) kk H locs ls hH hS hl)
  by_cases h18 : z.toInt = 18
  · exact lv_tableIn C.1.1 C.1.2.1 (lw_d lq_33) (tgt := 736) (off := 703) (by omega) (by omega) (by rw [h18]; rfl) rfl (lo_counted C hL hi hk hn ho hI (hO.2.2.2.2.2.2.2.2.2.2.2.2.2.2.2.2.2.2.2.1 _ _ _ _) kk H locs ls hH hS hl)
  by_cases h19 : z.toInt = 19
  · exact lv_tableIn C.1.1 C.1.2.1 (lw_d lq_33) (tgt := 789) (off := 756) (by omega) (by omega) (by rw [h19]; rfl) rfl (lo_forget C hL hi hk hn ho hI (hO.2.2.2.2.2.2.2.2.2.2.2.2.2.2.2.2.2.2.2.2.1) kk H locs ls hH hS hl)
  by_cases h20 : z.toInt = 20
  · exact lv_tableIn C.1.1 C.1.2.1 (lw_d lq_33) (tgt := 802) (off := 769) (by omega) (by omega) (by rw [h20]; rfl) rfl (lo_told C hL hi hk hn ho hI (hO.2.2.2.2.2.2.2.2.2.2.2.2.2.2.2.2.2.2.2.2.2 _) kk H locs ls hH hS hl)
  exact lv_tableOut C.1.1 C.1.2.1 (lw_d lq_33) (tgt := 825) (by omega) rfl (LW_wid (by omega) (by omega) (kk ph hI) H locs ls hH hS hl)
set_option maxRecDepth 100000 in
theorem lw_loop (C : LC p s m meth c b L xs G) (hO : OPS G Inv) (hL : L ≤ 384) : ∀ (r i k n : Nat) (ph : List px_E), L + 6 ≤ i + 6 * r + 6 → i ≤ 384 → k + 20 * r ≤ 600000 → n + 60000 * r ≤ 7302250 → Inv ph → LW p e s m below meth c b G k n 18 i [] ph := by
  intro r
  induction r with
  | zero =>
    intro i k n ph h1 h2 h3 h4 hI H locs ls hH hS hl
    have hbA : ¬ (fun q => G.2.2.2 ≤ q) b := by show ¬ G.2.2.2 ≤ b; have := C.1.2.2.2.2.2.2.2.1; have := C.2.1; omega
    refine lv_iload_n C.1.1 C.1.2.1 (lw_d lq_18) rfl (lv_at hl 3 rfl) (lv_aload_n C.1.1 C.1.2.1 (lw_d lq_19) rfl (lv_at hl 0 rfl) (va_slen C.1.1 C.1.2.1 C.1.2.2.2.2.2.2.1 C.1.2.2.2.2.2.2.2.1 hbA hS (lw_d lq_20) (lv_bipush C.1.1 C.1.2.1 (lw_d lq_21) rfl (lv_isub C.1.1 C.1.2.1 (lw_d lq_23) (lv_icmp_gt C.1.1 C.1.2.1 (lw_d lq_24) (tgt := 831) rfl (fun _ => ?_) (fun z => absurd ((lw_lt hL (by omega)).mpr (by omega)) z))))))
    refine va_forget (fun q hq => ?_) (lv_iconst C.1.1 C.1.2.1 (lw_d lq_831) rfl (W.widen (by omega) (by omega) (lw_ret C.1.1 C.1.2.1 C.1.2.2.1 C.1.2.2.2.2.2.2.2.2.1 (lw_d lq_832))))
    have := hS.2.2 q hq
    rw [← C.2.1]
    exact this
  | succ r ih =>
    intro i k n ph h1 h2 h3 h4 hI H locs ls hH hS hl
    have hbA : ¬ (fun q => G.2.2.2 ≤ q) b := by show ¬ G.2.2.2 ≤ b; have := C.1.2.2.2.2.2.2.2.1; have := C.2.1; omega
    refine lv_iload_n C.1.1 C.1.2.1 (lw_d lq_18) rfl (lv_at hl 3 rfl) (lv_aload_n C.1.1 C.1.2.1 (lw_d lq_19) rfl (lv_at hl 0 rfl) (va_slen C.1.1 C.1.2.1 C.1.2.2.2.2.2.2.1 C.1.2.2.2.2.2.2.2.1 hbA hS (lw_d lq_20) (lv_bipush C.1.1 C.1.2.1 (lw_d lq_21) rfl (lv_isub C.1.1 C.1.2.1 (lw_d lq_23) (lv_icmp_gt C.1.1 C.1.2.1 (lw_d lq_24) (tgt := 831) rfl (fun _ => ?_) (fun z => ?_))))))
    · refine va_forget (fun q hq => ?_) (lv_iconst C.1.1 C.1.2.1 (lw_d lq_831) rfl (W.widen (by omega) (by omega) (lw_ret C.1.1 C.1.2.1 C.1.2.2.1 C.1.2.2.2.2.2.2.2.2.1 (lw_d lq_832))))
      have := hS.2.2 q hq
      rw [← C.2.1]
      exact this
    · have hi : i + 6 ≤ L := by
        rcases Nat.lt_or_ge L (i + 6) with h | h
        · exact absurd ((lw_lt hL (by omega)).mpr h) z
        · exact h
      have a1 : k + 20 ≤ 600000 := by omega
      have e6 : 60000 * (r + 1) = 60000 + 60000 * r := by rw [Nat.mul_succ, Nat.add_comm]
      have a2 : n + 60000 ≤ 7302250 := Nat.le_trans (by rw [e6, ← Nat.add_assoc]; exact Nat.le_add_right _ _) h4
      have a3 : k + 20 + 20 * r ≤ 600000 := by omega
      have a4 : n + 60000 + 60000 * r ≤ 7302250 := by rw [Nat.add_assoc, ← e6]; exact h4
      have a5 : L + 6 ≤ i + 6 + 6 * r + 6 := by omega
      have a6 : i + 6 ≤ 384 := by omega
      exact lw_turn C hO hL hi a1 a2 hI (fun ph' hI' => LW.next C (ih (i + 6) (k + 20) (n + 60000) ph' a5 a6 a3 a4 hI')) H locs ls hH hS hl
end LAW4
/-- the classes of arrays and of objects, at the entry -/
theorem lw_known {p : Program} {s : State} {m : MethodId} {meth : Method} {c : Code} {b L : Nat} {xs : Nat → Int32} (C0 : lw_At p s m meth c b L xs) : ∃ (D : va_G) (cA : Nat → ClassId), va_K D vwCl (px_tyL cA) s ∧ px_AO s := by
  obtain ⟨hx, hb, hr, hml, hown, hts0, hX, hbl, hlocks, hgv⟩ := C0
  have hts : ∀ w ∈ px_tbl, w.before #[Value.ref b] s = true := fun w hw => hts0 w (List.mem_filter.mp hw).1
  have h1 : ∀ ci : Nat, ∃ (cC : ClassId) (iS : Nat → Nat), ∀ q, vwCl[ci]? = some q → u_Kn s q.1 q.2.1 q.2.2 cC iS := by
    intro ci
    by_cases hc : ∃ q, vwCl[ci]? = some q
    · obtain ⟨q, hq⟩ := hc
      obtain ⟨q', ty, fs, _, _, hins, hini, hws, _⟩ := px_chkC_at hq
      obtain ⟨cC, iS, h⟩ := u_known (C := q.1) (T := q.2.1) (N := q.2.2) hts hws (hts _ (px_tbl_of hins rfl))
      exact ⟨cC, iS, fun q2 hq2 => by cases hq.symm.trans hq2; exact h⟩
    · exact ⟨0, fun _ => 0, fun q hq => absurd ⟨q, hq⟩ hc⟩
  have ao : ∀ (t : Nat) (C : String), px_tys[t]? = some (.object C) → va_AO C s := by
    intro t C ht
    have key : ∀ (pos : Nat), lw_tbl[pos]? = some (Jvm.Cond.arrayOver (.object C)) → va_AO C s := fun pos hp => hts0 _ (List.mem_of_getElem? hp)
    match t, ht with
    | 4, ht => cases ht; exact key 129 (by decide +kernel)
    | 5, ht => cases ht; exact key 235 (by decide +kernel)
    | 6, ht => cases ht; exact key 262 (by decide +kernel)
    | 7, ht => cases ht; exact key 285 (by decide +kernel)
    | 0, ht => cases ht
    | 1, ht => cases ht
    | 2, ht => cases ht
    | 3, ht => cases ht
    | t + 8, ht => cases ht
  have prim : ∀ (ty : FieldType), (Jvm.Cond.arrayClass ty).before #[Value.ref b] s = true → (∀ cA, s.vm.findClass ("[" ++ ty.toString) = some cA → va_RA s cA ty) → ∃ cA, ArrOfT s cA ty ∧ va_RA s cA ty := by
    intro ty h hRA
    obtain ⟨cA, kA, comp, f1, f2, f3⟩ := Cond.arrayClass_spec h
    exact ⟨cA, fun n z => ⟨fun k h => (by cases h), kA, f2, comp, f3⟩, hRA cA f1⟩
  have h2 : ∀ t : Nat, ∃ cA : ClassId, ∀ ty, px_tys[t]? = some ty → ArrOfT s cA ty ∧ va_RA s cA ty := by
    intro t
    have obj : ∀ C, px_tys[t]? = some (.object C) → ∃ cA : ClassId, ∀ ty, px_tys[t]? = some ty → ArrOfT s cA ty ∧ va_RA s cA ty := by
      intro C ht
      obtain ⟨comp, cA, kA, f1, f2, f3, f4, f5⟩ := Cond.arrayOver_spec (ao t C ht)
      refine ⟨cA, fun ty hty => ?_⟩
      cases ht.symm.trans hty
      exact ⟨fun N z => ⟨(fun k h => by cases h), kA, f3, comp, f4⟩, kA, comp, f3, f4, f1, f5⟩
    match t, obj with
    | 0, _ => obtain ⟨cA, h⟩ := prim .int (hts0 _ (List.mem_of_getElem? (i := 198) (by decide +kernel))) (fun _ h => h); exact ⟨cA, fun ty hty => by cases hty; exact h⟩
    | 1, _ => obtain ⟨cA, h⟩ := prim .long (hts0 _ (List.mem_of_getElem? (i := 199) (by decide +kernel))) (fun _ h => h); exact ⟨cA, fun ty hty => by cases hty; exact h⟩
    | 2, _ => obtain ⟨cA, h⟩ := prim .byte (hts0 _ (List.mem_of_getElem? (i := 154) (by decide +kernel))) (fun _ h => h); exact ⟨cA, fun ty hty => by cases hty; exact h⟩
    | 3, _ => obtain ⟨cA, h⟩ := prim .boolean (hts0 _ (List.mem_of_getElem? (i := 1304) (by decide +kernel))) (fun _ h => h); exact ⟨cA, fun ty hty => by cases hty; exact h⟩
    | 4, obj => exact obj _ rfl
    | 5, obj => exact obj _ rfl
    | 6, obj => exact obj _ rfl
    | 7, obj => exact obj _ rfl
    | t + 8, _ => exact ⟨0, fun ty hty => by cases hty⟩
  refine ⟨(fun ci => (h1 ci).choose, fun ci => (h1 ci).choose_spec.choose), fun t => (h2 t).choose, ⟨fun ci q hq => (h1 ci).choose_spec.choose_spec q hq, fun t q hq => ?_⟩, ao, fun w hw hn => ?_⟩
  · unfold px_tyL at hq
    rw [List.getElem?_mapIdx] at hq
    obtain ⟨ty, hty, rfl⟩ := Option.map_eq_some_iff.mp hq
    exact (h2 t).choose_spec ty hty
  · have h := hts0 w hw
    cases w <;> first | exact h | cases hn
