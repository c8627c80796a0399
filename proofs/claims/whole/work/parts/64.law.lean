/-! THE CLAIM OUT OF ONE WALK OF THE LAW'S BODY. Your part is whole_start (and what it stands on); all else here is the same for every law, but numbers. -/
def R_law : String := "QueryGraphLaw"
def lw_P (b : Addr) (xs : List Int32) (args : Array Value) (s : State) : Prop := args = #[.ref b] ∧ s.IntsAt b xs ∧ xs.length ≤ 2560 ∧ (Jvm.Cond.and given_1 narrow_1).before args s = true
def lw_Q (_ : Array Value) (s : State) (o : Outcome) (t : State) : Prop := o = .returned (some (.int 1)) ∧ Framed s o t [] 600000 7302250
def lw_Z (below : List Frame) (a : Array Value) (s : State) : State → Prop := fun t => ∃ o, t.status = .running ∧ Ended t below o ∧ lw_Q a s o t
/-- the law's own end, with 1 on the stack, nothing written that was there before, its room as the claim has it -/
theorem lw_ret {p : Program} {l : Launch} {e : Env} {s : State} {m : MethodId} {below : List Frame} {meth : Method} {c : Code} {b : Nat} (hx : p.tables.exec = Jvm.exec) (hb : c.code = code) (hr : meth.sig.returnType = ret) (hlocks : meth.locks = false) {pc : Nat} {H : Heap} {ls : Array Slot} (hdg : decode code pc = .ok (.ireturn, 1)) : W p l e room_1 s m #[Value.ref b] below meth c H [] 600000 7302250 (lw_Z below #[Value.ref b] s) (F0 m pc ls [.int 1]) := by
  intro T hT X
  obtain ⟨fs, hret, hrun, hended, hW, hframe⟩ := X.leave (v := some (.int 1)) (hlocks := hlocks) (fun h => by rw [hr] at h; cases h)
  have hmeth' : T.vm.method? m = some meth := X.method'
  refine ⟨T.setFrames fs, ?_, .returned (some (.int 1)), hrun, hended, rfl, ⟨_, rfl⟩, hW, hframe⟩
  jvm_step X.here [X.here.top, hx, hb, hdg, hmeth', hr, ret, narrow_b1]
  (try refine ⟨rfl, ?_⟩); (try refine ⟨rfl, ?_⟩)
  first | (intro acts; rw [hret _ acts rfl rfl rfl]) | rw [hret _ _ rfl rfl rfl]
  exact Steps.refl _
/-- what holds at the law's entry: the machine, the code, the tables' words (any of lw_tbl by 'hts w (by decide +kernel)'), the script of L ints xs at the cell b, what the Statement gives of the start (any of its parts by flat_of_before) -/
def lw_At (p : Program) (s : State) (m : MethodId) (meth : Method) (c : Code) (b L : Nat) (xs : Nat → Int32) : Prop :=
  p.tables.exec = Jvm.exec ∧ c.code = code ∧ meth.sig.returnType = ret ∧ c.maxLocals = 4 ∧ s.vm.findClass R_law = some m.cls ∧ (∀ w ∈ lw_tbl, w.before #[Value.ref b] s = true) ∧ va_X b L xs s s.heap ∧ b < s.heap.size ∧ meth.locks = false ∧ (Jvm.Cond.and given_1 narrow_1).before #[Value.ref b] s = true
set_option maxHeartbeats 4000000 in
theorem law_0 {X : Cx} {b0 : Nat} {D : DD} {b : Nat} {Q : State → Prop} {l : Launch} {L : Nat} {xv : Nat → Int32} (hC : CX X b0 D code R_L 4 (some .boolean) l 100 600000 7302250) (hX : va_X b L xv (xs X) (xs X).heap) (hb : b < b0) (hb0 : b0 = (xs X).heap.size) (hL : L ≤ 2560) (i : Int) (hi : 0 ≤ i ∧ i + 5 ≤ L) (M : Mem) (hR : REL M) (next : ∀ M2 : Mem, REL M2 → AP X b0 D b true 600000 7302250 Q 117 M2 579 [none, some (.inr 0), some (.inr 88), some (.inl i)] []) : AP X b0 D b true 600000 7302250 Q 117 M 108 [none, some (.inr 0), some (.inr 88), some (.inl i)] [] := by
  have hSC : SC M := hR.1.1.1
  have hRC : RC M := hR.1.2.2.2.2.1
  have hTX : TX M := hR.1.2.1.1.1
  refine P_ald1 hC d_L_law_108 ?_
  refine P_callV (as := []) hC d_L_law_109 mv_G_type lk_L_13 (by decide) sel_G_type hq_G ly_0 (by decide) (k_G_type l 117 M (Nat.le_refl _) hSC) rfl rfl (Nat.le_of_ble_eq_true rfl) ⟨Nat.le_refl _, Nat.le_refl _⟩ rfl (fun r' n' M1 h => ?_)
  obtain ⟨rfl, rfl, rfl⟩ := h
  show AP X b0 D b true 600000 7302250 Q 117 _ 112 [none, some (.inr 0), some (.inr 88), some (.inl i)] [.inl _]
  refine P_ald2 hC d_L_law_112 ?_
  refine P_callV (as := []) hC d_L_law_113 mv_Mo_type lk_L_17 (by decide) sel_Mo_type hq_Mo ly_88 (by decide) (k_Mo_type l 117 _ (Nat.le_refl _) (MB_c (M := M) (fun c y q => by (repeat (first | rfl | split | rw [up_nc (by omega)]))) hR.2.1.1.2.1)) rfl rfl (Nat.le_of_ble_eq_true rfl) ⟨Nat.le_refl _, Nat.le_refl _⟩ rfl (fun r' n' M1 h => ?_)
  obtain ⟨rfl, rfl, rfl⟩ := h
  show AP X b0 D b true 600000 7302250 Q 117 _ 116 [none, some (.inr 0), some (.inr 88), some (.inl i)] [.inl _, .inl _]
  have hO := O_type hR
  refine P_icmpeq (tgt := 579) hC d_L_law_116 (by decide) (fun hq => ?_) (fun hq => ?_)
  · exact next _ hO.2
  · first | exact absurd hO.1 hq | exact absurd rfl hq
set_option maxHeartbeats 4000000 in
theorem law_2 {X : Cx} {b0 : Nat} {D : DD} {b : Nat} {Q : State → Prop} {l : Launch} {L : Nat} {xv : Nat → Int32} (hC : CX X b0 D code R_L 4 (some .boolean) l 100 600000 7302250) (hX : va_X b L xv (xs X) (xs X).heap) (hb : b < b0) (hb0 : b0 = (xs X).heap.size) (hL : L ≤ 2560) (i : Int) (hi : 0 ≤ i ∧ i + 5 ≤ L) (M : Mem) (hR : REL M) (next : ∀ M2 : Mem, REL M2 → AP X b0 D b true 600000 7302250 Q 117 M2 579 [none, some (.inr 0), some (.inr 88), some (.inl i)] []) : AP X b0 D b true 600000 7302250 Q 117 M 190 [none, some (.inr 0), some (.inr 88), some (.inl i)] [] := by
  have hSC : SC M := hR.1.1.1
  have hRC : RC M := hR.1.2.2.2.2.1
  have hTX : TX M := hR.1.2.1.1.1
  refine P_ald1 hC d_L_law_190 ?_
  refine P_scr (k := 1) hC hX hb hb0 d_L_law_191 d_L_law_192 d_L_law_193 d_L_law_194 d_L_law_195 (by omega) hL ?_
  show AP X b0 D b true 600000 7302250 Q 117 _ 196 [none, some (.inr 0), some (.inr 88), some (.inl i)] [.inl (scv xv (i + 1)), .inr 0]
  refine P_callV (as := [.inl (scv xv (i + 1))]) hC d_L_law_196 mv_G_row lk_L_23 (by decide) sel_G_row hq_G ly_0 (by decide) (k_G_row l 117 M (Nat.le_refl _) hRC (scv xv (i + 1))) rfl rfl (Nat.le_of_ble_eq_true rfl) ⟨Nat.le_refl _, Nat.le_refl _⟩ rfl (fun r' n' M1 h => ?_)
  obtain ⟨rfl, rfl, rfl⟩ := h
  show AP X b0 D b true 600000 7302250 Q 117 _ 199 [none, some (.inr 0), some (.inr 88), some (.inl i)] [.inl _]
  refine P_ald2 hC d_L_law_199 ?_
  refine P_scr (k := 1) hC hX hb hb0 d_L_law_200 d_L_law_201 d_L_law_202 d_L_law_203 d_L_law_204 (by omega) hL ?_
  show AP X b0 D b true 600000 7302250 Q 117 _ 205 [none, some (.inr 0), some (.inr 88), some (.inl i)] [.inl (scv xv (i + 1)), .inr 88, .inl _]
  refine P_callV (as := [.inl (scv xv (i + 1))]) hC d_L_law_205 mv_Mo_row lk_L_27 (by decide) sel_Mo_row hq_Mo ly_88 (by decide) (k_Mo_row l 117 _ (Nat.le_refl _) (MB_c (M := M) (fun c y q => by (repeat (first | rfl | split | exact adR_v.1 c y (by omega) (by omega) (by omega) (by omega)))) hR.2.1.1.2.1) (scv xv (i + 1))) rfl rfl (Nat.le_of_ble_eq_true rfl) ⟨Nat.le_refl _, Nat.le_refl _⟩ rfl (fun r' n' M1 h => ?_)
  obtain ⟨rfl, rfl, rfl⟩ := h
  show AP X b0 D b true 600000 7302250 Q 117 _ 208 [none, some (.inr 0), some (.inr 88), some (.inl i)] [.inl _, .inl _]
  have hO := O_row hR (scv xv (i + 1))
  refine P_icmpeq (tgt := 579) hC d_L_law_208 (by decide) (fun hq => ?_) (fun hq => ?_)
  · exact next _ hO.2
  · first | exact absurd hO.1 hq | exact absurd rfl hq
set_option maxHeartbeats 4000000 in
theorem law_3 {X : Cx} {b0 : Nat} {D : DD} {b : Nat} {Q : State → Prop} {l : Launch} {L : Nat} {xv : Nat → Int32} (hC : CX X b0 D code R_L 4 (some .boolean) l 100 600000 7302250) (hX : va_X b L xv (xs X) (xs X).heap) (hb : b < b0) (hb0 : b0 = (xs X).heap.size) (hL : L ≤ 2560) (i : Int) (hi : 0 ≤ i ∧ i + 5 ≤ L) (M : Mem) (hR : REL M) (next : ∀ M2 : Mem, REL M2 → AP X b0 D b true 600000 7302250 Q 117 M2 579 [none, some (.inr 0), some (.inr 88), some (.inl i)] []) : AP X b0 D b true 600000 7302250 Q 117 M 213 [none, some (.inr 0), some (.inr 88), some (.inl i)] [] := by
  have hSC : SC M := hR.1.1.1
  have hRC : RC M := hR.1.2.2.2.2.1
  have hTX : TX M := hR.1.2.1.1.1
  refine P_ald1 hC d_L_law_213 ?_
  refine P_scr (k := 1) hC hX hb hb0 d_L_law_214 d_L_law_215 d_L_law_216 d_L_law_217 d_L_law_218 (by omega) hL ?_
  show AP X b0 D b true 600000 7302250 Q 117 _ 219 [none, some (.inr 0), some (.inr 88), some (.inl i)] [.inl (scv xv (i + 1)), .inr 0]
  refine P_scr (k := 2) hC hX hb hb0 d_L_law_219 d_L_law_220 d_L_law_221 d_L_law_222 d_L_law_223 (by omega) hL ?_
  show AP X b0 D b true 600000 7302250 Q 117 _ 224 [none, some (.inr 0), some (.inr 88), some (.inl i)] [.inl (scv xv (i + 2)), .inl (scv xv (i + 1)), .inr 0]
  refine P_scr (k := 3) hC hX hb hb0 d_L_law_224 d_L_law_225 d_L_law_226 d_L_law_227 d_L_law_228 (by omega) hL ?_
  show AP X b0 D b true 600000 7302250 Q 117 _ 229 [none, some (.inr 0), some (.inr 88), some (.inl i)] [.inl (scv xv (i + 3)), .inl (scv xv (i + 2)), .inl (scv xv (i + 1)), .inr 0]
  refine P_callV (as := [.inl (scv xv (i + 1)), .inl (scv xv (i + 2)), .inl (scv xv (i + 3))]) hC d_L_law_229 mv_G_put lk_L_28 (by decide) sel_G_put hq_G ly_0 (by decide) (k_G_put l 117 M (Nat.le_refl _) hSC hRC (scv xv (i + 1)) (scv xv (i + 2)) (scv xv (i + 3))) rfl rfl (Nat.le_of_ble_eq_true rfl) ⟨Nat.le_refl _, Nat.le_refl _⟩ rfl (fun r' n' M1 h => ?_)
  obtain ⟨rfl, rfl, rfl⟩ := h
  show AP X b0 D b true 600000 7302250 Q 117 _ 232 [none, some (.inr 0), some (.inr 88), some (.inl i)] [.inl _]
  refine P_ald2 hC d_L_law_232 ?_
  refine P_scr (k := 1) hC hX hb hb0 d_L_law_233 d_L_law_234 d_L_law_235 d_L_law_236 d_L_law_237 (by omega) hL ?_
  show AP X b0 D b true 600000 7302250 Q 117 _ 238 [none, some (.inr 0), some (.inr 88), some (.inl i)] [.inl (scv xv (i + 1)), .inr 88, .inl _]
  refine P_scr (k := 2) hC hX hb hb0 d_L_law_238 d_L_law_239 d_L_law_240 d_L_law_241 d_L_law_242 (by omega) hL ?_
  show AP X b0 D b true 600000 7302250 Q 117 _ 243 [none, some (.inr 0), some (.inr 88), some (.inl i)] [.inl (scv xv (i + 2)), .inl (scv xv (i + 1)), .inr 88, .inl _]
  refine P_scr (k := 3) hC hX hb hb0 d_L_law_243 d_L_law_244 d_L_law_245 d_L_law_246 d_L_law_247 (by omega) hL ?_
  show AP X b0 D b true 600000 7302250 Q 117 _ 248 [none, some (.inr 0), some (.inr 88), some (.inl i)] [.inl (scv xv (i + 3)), .inl (scv xv (i + 2)), .inl (scv xv (i + 1)), .inr 88, .inl _]
  refine P_callV (as := [.inl (scv xv (i + 1)), .inl (scv xv (i + 2)), .inl (scv xv (i + 3))]) hC d_L_law_248 mv_Mo_put lk_L_32 (by decide) sel_Mo_put hq_Mo ly_88 (by decide) (k_Mo_put l 117 _ (Nat.le_refl _) (MB_c (M := M) (fun c y q => by (repeat (first | rfl | split | rw [up_nc (by omega)]))) hR.2.1.1.2.1) (scv xv (i + 1)) (scv xv (i + 2)) (scv xv (i + 3))) rfl rfl (Nat.le_of_ble_eq_true rfl) ⟨Nat.le_refl _, Nat.le_refl _⟩ rfl (fun r' n' M1 h => ?_)
  obtain ⟨rfl, rfl, rfl⟩ := h
  show AP X b0 D b true 600000 7302250 Q 117 _ 251 [none, some (.inr 0), some (.inr 88), some (.inl i)] [.inl _, .inl _]
  have hO := O_put hR (scv xv (i + 1)) (scv xv (i + 2)) (scv xv (i + 3))
  refine P_icmpeq (tgt := 579) hC d_L_law_251 (by decide) (fun hq => ?_) (fun hq => ?_)
  · exact next _ hO.2
  · first | exact absurd hO.1 hq | exact absurd rfl hq
set_option maxHeartbeats 4000000 in
theorem law_4 {X : Cx} {b0 : Nat} {D : DD} {b : Nat} {Q : State → Prop} {l : Launch} {L : Nat} {xv : Nat → Int32} (hC : CX X b0 D code R_L 4 (some .boolean) l 100 600000 7302250) (hX : va_X b L xv (xs X) (xs X).heap) (hb : b < b0) (hb0 : b0 = (xs X).heap.size) (hL : L ≤ 2560) (i : Int) (hi : 0 ≤ i ∧ i + 5 ≤ L) (M : Mem) (hR : REL M) (next : ∀ M2 : Mem, REL M2 → AP X b0 D b true 600000 7302250 Q 117 M2 579 [none, some (.inr 0), some (.inr 88), some (.inl i)] []) : AP X b0 D b true 600000 7302250 Q 117 M 256 [none, some (.inr 0), some (.inr 88), some (.inl i)] [] := by
  have hSC : SC M := hR.1.1.1
  have hRC : RC M := hR.1.2.2.2.2.1
  have hTX : TX M := hR.1.2.1.1.1
  refine P_ald1 hC d_L_law_256 ?_
  refine P_scr (k := 1) hC hX hb hb0 d_L_law_257 d_L_law_258 d_L_law_259 d_L_law_260 d_L_law_261 (by omega) hL ?_
  show AP X b0 D b true 600000 7302250 Q 117 _ 262 [none, some (.inr 0), some (.inr 88), some (.inl i)] [.inl (scv xv (i + 1)), .inr 0]
  refine P_scr (k := 2) hC hX hb hb0 d_L_law_262 d_L_law_263 d_L_law_264 d_L_law_265 d_L_law_266 (by omega) hL ?_
  show AP X b0 D b true 600000 7302250 Q 117 _ 267 [none, some (.inr 0), some (.inr 88), some (.inl i)] [.inl (scv xv (i + 2)), .inl (scv xv (i + 1)), .inr 0]
  refine P_scr (k := 3) hC hX hb hb0 d_L_law_267 d_L_law_268 d_L_law_269 d_L_law_270 d_L_law_271 (by omega) hL ?_
  show AP X b0 D b true 600000 7302250 Q 117 _ 272 [none, some (.inr 0), some (.inr 88), some (.inl i)] [.inl (scv xv (i + 3)), .inl (scv xv (i + 2)), .inl (scv xv (i + 1)), .inr 0]
  refine P_callV (as := [.inl (scv xv (i + 1)), .inl (scv xv (i + 2)), .inl (scv xv (i + 3))]) hC d_L_law_272 mv_G_link lk_L_33 (by decide) sel_G_link hq_G ly_0 (by decide) (k_G_link l 117 M (Nat.le_refl _) hSC hRC (scv xv (i + 1)) (scv xv (i + 2)) (scv xv (i + 3)) hR.1.2.2.1.2.1) rfl rfl (Nat.le_of_ble_eq_true rfl) ⟨Nat.le_refl _, Nat.le_refl _⟩ rfl (fun r' n' M1 h => ?_)
  obtain ⟨rfl, rfl, rfl⟩ := h
  show AP X b0 D b true 600000 7302250 Q 117 _ 275 [none, some (.inr 0), some (.inr 88), some (.inl i)] [.inl _]
  refine P_ald2 hC d_L_law_275 ?_
  refine P_scr (k := 1) hC hX hb hb0 d_L_law_276 d_L_law_277 d_L_law_278 d_L_law_279 d_L_law_280 (by omega) hL ?_
  show AP X b0 D b true 600000 7302250 Q 117 _ 281 [none, some (.inr 0), some (.inr 88), some (.inl i)] [.inl (scv xv (i + 1)), .inr 88, .inl _]
  refine P_scr (k := 2) hC hX hb hb0 d_L_law_281 d_L_law_282 d_L_law_283 d_L_law_284 d_L_law_285 (by omega) hL ?_
  show AP X b0 D b true 600000 7302250 Q 117 _ 286 [none, some (.inr 0), some (.inr 88), some (.inl i)] [.inl (scv xv (i + 2)), .inl (scv xv (i + 1)), .inr 88, .inl _]
  refine P_scr (k := 3) hC hX hb hb0 d_L_law_286 d_L_law_287 d_L_law_288 d_L_law_289 d_L_law_290 (by omega) hL ?_
  show AP X b0 D b true 600000 7302250 Q 117 _ 291 [none, some (.inr 0), some (.inr 88), some (.inl i)] [.inl (scv xv (i + 3)), .inl (scv xv (i + 2)), .inl (scv xv (i + 1)), .inr 88, .inl _]
  refine P_callV (as := [.inl (scv xv (i + 1)), .inl (scv xv (i + 2)), .inl (scv xv (i + 3))]) hC d_L_law_291 mv_Mo_link lk_L_36 (by decide) sel_Mo_link hq_Mo ly_88 (by decide) (k_Mo_link l 117 _ (Nat.le_refl _) (MB_c (M := M) (fun c y q => by (repeat (first | rfl | split | rw [up_nc (by omega)]))) hR.2.1.1.2.1) (scv xv (i + 1)) (scv xv (i + 2)) (scv xv (i + 3)) ((MB_c (M := M) (fun c y q => by (repeat (first | rfl | split | rw [up_nc (by omega)]))) hR.2.1.1.2.1).2.2.2.1 _).1) rfl rfl (Nat.le_of_ble_eq_true rfl) ⟨Nat.le_refl _, Nat.le_refl _⟩ rfl (fun r' n' M1 h => ?_)
  obtain ⟨rfl, rfl, rfl⟩ := h
  show AP X b0 D b true 600000 7302250 Q 117 _ 294 [none, some (.inr 0), some (.inr 88), some (.inl i)] [.inl _, .inl _]
  have hO := O_link hR (scv xv (i + 1)) (scv xv (i + 2)) (scv xv (i + 3)) _ rfl
  refine P_icmpeq (tgt := 579) hC d_L_law_294 (by decide) (fun hq => ?_) (fun hq => ?_)
  · exact next _ hO.2
  · first | exact absurd hO.1 hq | exact absurd rfl hq
set_option maxHeartbeats 4000000 in
theorem law_5 {X : Cx} {b0 : Nat} {D : DD} {b : Nat} {Q : State → Prop} {l : Launch} {L : Nat} {xv : Nat → Int32} (hC : CX X b0 D code R_L 4 (some .boolean) l 100 600000 7302250) (hX : va_X b L xv (xs X) (xs X).heap) (hb : b < b0) (hb0 : b0 = (xs X).heap.size) (hL : L ≤ 2560) (i : Int) (hi : 0 ≤ i ∧ i + 5 ≤ L) (M : Mem) (hR : REL M) (next : ∀ M2 : Mem, REL M2 → AP X b0 D b true 600000 7302250 Q 117 M2 579 [none, some (.inr 0), some (.inr 88), some (.inl i)] []) : AP X b0 D b true 600000 7302250 Q 117 M 299 [none, some (.inr 0), some (.inr 88), some (.inl i)] [] := by
  have hSC : SC M := hR.1.1.1
  have hRC : RC M := hR.1.2.2.2.2.1
  have hTX : TX M := hR.1.2.1.1.1
  refine P_ald1 hC d_L_law_299 ?_
  refine P_scr (k := 1) hC hX hb hb0 d_L_law_300 d_L_law_301 d_L_law_302 d_L_law_303 d_L_law_304 (by omega) hL ?_
  show AP X b0 D b true 600000 7302250 Q 117 _ 305 [none, some (.inr 0), some (.inr 88), some (.inl i)] [.inl (scv xv (i + 1)), .inr 0]
  refine P_scr (k := 2) hC hX hb hb0 d_L_law_305 d_L_law_306 d_L_law_307 d_L_law_308 d_L_law_309 (by omega) hL ?_
  show AP X b0 D b true 600000 7302250 Q 117 _ 310 [none, some (.inr 0), some (.inr 88), some (.inl i)] [.inl (scv xv (i + 2)), .inl (scv xv (i + 1)), .inr 0]
  refine P_callV (as := [.inl (scv xv (i + 1)), .inl (scv xv (i + 2))]) hC d_L_law_310 mv_G_clear lk_L_37 (by decide) sel_G_clear hq_G ly_0 (by decide) (k_G_clear l 117 M (Nat.le_refl _) hSC hRC (scv xv (i + 1)) (scv xv (i + 2)) (fun t f w => (hR.1.1.2.1 t f w).1.1)) rfl rfl (Nat.le_of_ble_eq_true rfl) ⟨Nat.le_refl _, Nat.le_refl _⟩ rfl (fun r' n' M1 h => ?_)
  obtain ⟨rfl, rfl, rfl⟩ := h
  show AP X b0 D b true 600000 7302250 Q 117 _ 313 [none, some (.inr 0), some (.inr 88), some (.inl i)] [.inl _]
  refine P_ald2 hC d_L_law_313 ?_
  refine P_scr (k := 1) hC hX hb hb0 d_L_law_314 d_L_law_315 d_L_law_316 d_L_law_317 d_L_law_318 (by omega) hL ?_
  show AP X b0 D b true 600000 7302250 Q 117 _ 319 [none, some (.inr 0), some (.inr 88), some (.inl i)] [.inl (scv xv (i + 1)), .inr 88, .inl _]
  refine P_scr (k := 2) hC hX hb hb0 d_L_law_319 d_L_law_320 d_L_law_321 d_L_law_322 d_L_law_323 (by omega) hL ?_
  show AP X b0 D b true 600000 7302250 Q 117 _ 324 [none, some (.inr 0), some (.inr 88), some (.inl i)] [.inl (scv xv (i + 2)), .inl (scv xv (i + 1)), .inr 88, .inl _]
  refine P_callV (as := [.inl (scv xv (i + 1)), .inl (scv xv (i + 2))]) hC d_L_law_324 mv_Mo_clear lk_L_41 (by decide) sel_Mo_clear hq_Mo ly_88 (by decide) (k_Mo_clear l 117 _ (Nat.le_refl _) (MB_c (M := M) (fun c y q => by (repeat (first | rfl | split | rw [up_nc (by omega)]))) hR.2.1.1.2.1) (scv xv (i + 1)) (scv xv (i + 2))) rfl rfl (Nat.le_of_ble_eq_true rfl) ⟨Nat.le_refl _, Nat.le_refl _⟩ rfl (fun r' n' M1 h => ?_)
  obtain ⟨rfl, rfl, rfl⟩ := h
  show AP X b0 D b true 600000 7302250 Q 117 _ 327 [none, some (.inr 0), some (.inr 88), some (.inl i)] [.inl _, .inl _]
  have hO := O_clear hR (scv xv (i + 1)) (scv xv (i + 2))
  refine P_icmpeq (tgt := 579) hC d_L_law_327 (by decide) (fun hq => ?_) (fun hq => ?_)
  · exact next _ hO.2
  · first | exact absurd hO.1 hq | exact absurd rfl hq
set_option maxHeartbeats 4000000 in
theorem law_6 {X : Cx} {b0 : Nat} {D : DD} {b : Nat} {Q : State → Prop} {l : Launch} {L : Nat} {xv : Nat → Int32} (hC : CX X b0 D code R_L 4 (some .boolean) l 100 600000 7302250) (hX : va_X b L xv (xs X) (xs X).heap) (hb : b < b0) (hb0 : b0 = (xs X).heap.size) (hL : L ≤ 2560) (i : Int) (hi : 0 ≤ i ∧ i + 5 ≤ L) (M : Mem) (hR : REL M) (next : ∀ M2 : Mem, REL M2 → AP X b0 D b true 600000 7302250 Q 117 M2 579 [none, some (.inr 0), some (.inr 88), some (.inl i)] []) : AP X b0 D b true 600000 7302250 Q 117 M 332 [none, some (.inr 0), some (.inr 88), some (.inl i)] [] := by
  have hSC : SC M := hR.1.1.1
  have hRC : RC M := hR.1.2.2.2.2.1
  have hTX : TX M := hR.1.2.1.1.1
  refine P_ald1 hC d_L_law_332 ?_
  refine P_scr (k := 1) hC hX hb hb0 d_L_law_333 d_L_law_334 d_L_law_335 d_L_law_336 d_L_law_337 (by omega) hL ?_
  show AP X b0 D b true 600000 7302250 Q 117 _ 338 [none, some (.inr 0), some (.inr 88), some (.inl i)] [.inl (scv xv (i + 1)), .inr 0]
  refine P_scr (k := 2) hC hX hb hb0 d_L_law_338 d_L_law_339 d_L_law_340 d_L_law_341 d_L_law_342 (by omega) hL ?_
  show AP X b0 D b true 600000 7302250 Q 117 _ 343 [none, some (.inr 0), some (.inr 88), some (.inl i)] [.inl (scv xv (i + 2)), .inl (scv xv (i + 1)), .inr 0]
  refine P_callV (as := [.inl (scv xv (i + 1)), .inl (scv xv (i + 2))]) hC d_L_law_343 mv_G_set lk_L_42 (by decide) sel_G_set hq_G ly_0 (by decide) (k_G_set l 117 M (Nat.le_refl _) (scv xv (i + 1)) (scv xv (i + 2))) rfl rfl (Nat.le_of_ble_eq_true rfl) ⟨Nat.le_refl _, Nat.le_refl _⟩ rfl (fun r' n' M1 h => ?_)
  obtain ⟨rfl, rfl, rfl⟩ := h
  show AP X b0 D b true 600000 7302250 Q 117 _ 346 [none, some (.inr 0), some (.inr 88), some (.inl i)] [.inl _]
  refine P_ald2 hC d_L_law_346 ?_
  refine P_scr (k := 1) hC hX hb hb0 d_L_law_347 d_L_law_348 d_L_law_349 d_L_law_350 d_L_law_351 (by omega) hL ?_
  show AP X b0 D b true 600000 7302250 Q 117 _ 352 [none, some (.inr 0), some (.inr 88), some (.inl i)] [.inl (scv xv (i + 1)), .inr 88, .inl _]
  refine P_scr (k := 2) hC hX hb hb0 d_L_law_352 d_L_law_353 d_L_law_354 d_L_law_355 d_L_law_356 (by omega) hL ?_
  show AP X b0 D b true 600000 7302250 Q 117 _ 357 [none, some (.inr 0), some (.inr 88), some (.inl i)] [.inl (scv xv (i + 2)), .inl (scv xv (i + 1)), .inr 88, .inl _]
  refine P_callV (as := [.inl (scv xv (i + 1)), .inl (scv xv (i + 2))]) hC d_L_law_357 mv_Mo_set lk_L_45 (by decide) sel_Mo_set hq_Mo ly_88 (by decide) (k_Mo_set l 117 _ (Nat.le_refl _) (scv xv (i + 1)) (scv xv (i + 2))) rfl rfl (Nat.le_of_ble_eq_true rfl) ⟨Nat.le_refl _, Nat.le_refl _⟩ rfl (fun r' n' M1 h => ?_)
  obtain ⟨rfl, rfl, rfl⟩ := h
  show AP X b0 D b true 600000 7302250 Q 117 _ 360 [none, some (.inr 0), some (.inr 88), some (.inl i)] [.inl _, .inl _]
  have hO := And.intro (Eq.refl (0 : Int)) (O_set hR (scv xv (i + 1)) (scv xv (i + 2)))
  refine P_icmpeq (tgt := 579) hC d_L_law_360 (by decide) (fun hq => ?_) (fun hq => ?_)
  · exact next _ hO.2
  · first | exact absurd hO.1 hq | exact absurd rfl hq
set_option maxHeartbeats 4000000 in
theorem law_7 {X : Cx} {b0 : Nat} {D : DD} {b : Nat} {Q : State → Prop} {l : Launch} {L : Nat} {xv : Nat → Int32} (hC : CX X b0 D code R_L 4 (some .boolean) l 100 600000 7302250) (hX : va_X b L xv (xs X) (xs X).heap) (hb : b < b0) (hb0 : b0 = (xs X).heap.size) (hL : L ≤ 2560) (i : Int) (hi : 0 ≤ i ∧ i + 5 ≤ L) (M : Mem) (hR : REL M) (next : ∀ M2 : Mem, REL M2 → AP X b0 D b true 600000 7302250 Q 117 M2 579 [none, some (.inr 0), some (.inr 88), some (.inl i)] []) : AP X b0 D b true 600000 7302250 Q 117 M 365 [none, some (.inr 0), some (.inr 88), some (.inl i)] [] := by
  have hSC : SC M := hR.1.1.1
  have hRC : RC M := hR.1.2.2.2.2.1
  have hTX : TX M := hR.1.2.1.1.1
  refine P_ald1 hC d_L_law_365 ?_
  refine P_scr (k := 1) hC hX hb hb0 d_L_law_366 d_L_law_367 d_L_law_368 d_L_law_369 d_L_law_370 (by omega) hL ?_
  show AP X b0 D b true 600000 7302250 Q 117 _ 371 [none, some (.inr 0), some (.inr 88), some (.inl i)] [.inl (scv xv (i + 1)), .inr 0]
  refine P_scr (k := 2) hC hX hb hb0 d_L_law_371 d_L_law_372 d_L_law_373 d_L_law_374 d_L_law_375 (by omega) hL ?_
  show AP X b0 D b true 600000 7302250 Q 117 _ 376 [none, some (.inr 0), some (.inr 88), some (.inl i)] [.inl (scv xv (i + 2)), .inl (scv xv (i + 1)), .inr 0]
  refine P_scr (k := 3) hC hX hb hb0 d_L_law_376 d_L_law_377 d_L_law_378 d_L_law_379 d_L_law_380 (by omega) hL ?_
  show AP X b0 D b true 600000 7302250 Q 117 _ 381 [none, some (.inr 0), some (.inr 88), some (.inl i)] [.inl (scv xv (i + 3)), .inl (scv xv (i + 2)), .inl (scv xv (i + 1)), .inr 0]
  refine P_scr (k := 4) hC hX hb hb0 d_L_law_381 d_L_law_382 d_L_law_383 d_L_law_384 d_L_law_385 (by omega) hL ?_
  show AP X b0 D b true 600000 7302250 Q 117 _ 386 [none, some (.inr 0), some (.inr 88), some (.inl i)] [.inl (scv xv (i + 4)), .inl (scv xv (i + 3)), .inl (scv xv (i + 2)), .inl (scv xv (i + 1)), .inr 0]
  refine P_callV (as := [.inl (scv xv (i + 1)), .inl (scv xv (i + 2)), .inl (scv xv (i + 3)), .inl (scv xv (i + 4))]) hC d_L_law_386 mv_G_token lk_L_46 (by decide) sel_G_token hq_G ly_0 (by decide) (k_G_token l 117 M (Nat.le_refl _) hTX (scv xv (i + 1)) (scv xv (i + 2)) (scv xv (i + 3)) (scv xv (i + 4))) rfl rfl (Nat.le_of_ble_eq_true rfl) ⟨Nat.le_refl _, Nat.le_refl _⟩ rfl (fun r' n' M1 h => ?_)
  obtain ⟨rfl, rfl, rfl⟩ := h
  show AP X b0 D b true 600000 7302250 Q 117 _ 389 [none, some (.inr 0), some (.inr 88), some (.inl i)] [.inl _]
  refine P_ald2 hC d_L_law_389 ?_
  refine P_scr (k := 1) hC hX hb hb0 d_L_law_390 d_L_law_391 d_L_law_392 d_L_law_393 d_L_law_394 (by omega) hL ?_
  show AP X b0 D b true 600000 7302250 Q 117 _ 395 [none, some (.inr 0), some (.inr 88), some (.inl i)] [.inl (scv xv (i + 1)), .inr 88, .inl _]
  refine P_scr (k := 2) hC hX hb hb0 d_L_law_395 d_L_law_396 d_L_law_397 d_L_law_398 d_L_law_399 (by omega) hL ?_
  show AP X b0 D b true 600000 7302250 Q 117 _ 400 [none, some (.inr 0), some (.inr 88), some (.inl i)] [.inl (scv xv (i + 2)), .inl (scv xv (i + 1)), .inr 88, .inl _]
  refine P_scr (k := 3) hC hX hb hb0 d_L_law_400 d_L_law_401 d_L_law_402 d_L_law_403 d_L_law_404 (by omega) hL ?_
  show AP X b0 D b true 600000 7302250 Q 117 _ 405 [none, some (.inr 0), some (.inr 88), some (.inl i)] [.inl (scv xv (i + 3)), .inl (scv xv (i + 2)), .inl (scv xv (i + 1)), .inr 88, .inl _]
  refine P_scr (k := 4) hC hX hb hb0 d_L_law_405 d_L_law_406 d_L_law_407 d_L_law_408 d_L_law_409 (by omega) hL ?_
  show AP X b0 D b true 600000 7302250 Q 117 _ 410 [none, some (.inr 0), some (.inr 88), some (.inl i)] [.inl (scv xv (i + 4)), .inl (scv xv (i + 3)), .inl (scv xv (i + 2)), .inl (scv xv (i + 1)), .inr 88, .inl _]
  refine P_callV (as := [.inl (scv xv (i + 1)), .inl (scv xv (i + 2)), .inl (scv xv (i + 3)), .inl (scv xv (i + 4))]) hC d_L_law_410 mv_Mo_token lk_L_50 (by decide) sel_Mo_token hq_Mo ly_88 (by decide) (k_Mo_token l 117 _ (Nat.le_refl _) (MB_c (M := M) (fun c y q => by (repeat (first | rfl | split | rw [up_nc (by omega)]))) hR.2.1.1.2.1) (scv xv (i + 1)) (scv xv (i + 2)) (scv xv (i + 3)) (scv xv (i + 4))) rfl rfl (Nat.le_of_ble_eq_true rfl) ⟨Nat.le_refl _, Nat.le_refl _⟩ rfl (fun r' n' M1 h => ?_)
  obtain ⟨rfl, rfl, rfl⟩ := h
  show AP X b0 D b true 600000 7302250 Q 117 _ 413 [none, some (.inr 0), some (.inr 88), some (.inl i)] [.inl _, .inl _]
  have hO := O_token hR (scv xv (i + 1)) (scv xv (i + 2)) (scv xv (i + 3)) (scv xv (i + 4))
  refine P_icmpeq (tgt := 579) hC d_L_law_413 (by decide) (fun hq => ?_) (fun hq => ?_)
  · exact next _ hO.2
  · first | exact absurd hO.1 hq | exact absurd rfl hq
set_option maxHeartbeats 4000000 in
theorem law_8 {X : Cx} {b0 : Nat} {D : DD} {b : Nat} {Q : State → Prop} {l : Launch} {L : Nat} {xv : Nat → Int32} (hC : CX X b0 D code R_L 4 (some .boolean) l 100 600000 7302250) (hX : va_X b L xv (xs X) (xs X).heap) (hb : b < b0) (hb0 : b0 = (xs X).heap.size) (hL : L ≤ 2560) (i : Int) (hi : 0 ≤ i ∧ i + 5 ≤ L) (M : Mem) (hR : REL M) (next : ∀ M2 : Mem, REL M2 → AP X b0 D b true 600000 7302250 Q 117 M2 579 [none, some (.inr 0), some (.inr 88), some (.inl i)] []) : AP X b0 D b true 600000 7302250 Q 117 M 418 [none, some (.inr 0), some (.inr 88), some (.inl i)] [] := by
  have hSC : SC M := hR.1.1.1
  have hRC : RC M := hR.1.2.2.2.2.1
  have hTX : TX M := hR.1.2.1.1.1
  refine P_ald1 hC d_L_law_418 ?_
  refine P_scr (k := 1) hC hX hb hb0 d_L_law_419 d_L_law_420 d_L_law_421 d_L_law_422 d_L_law_423 (by omega) hL ?_
  show AP X b0 D b true 600000 7302250 Q 117 _ 424 [none, some (.inr 0), some (.inr 88), some (.inl i)] [.inl (scv xv (i + 1)), .inr 0]
  refine P_callV (as := [.inl (scv xv (i + 1))]) hC d_L_law_424 mv_G_wipe lk_L_51 (by decide) sel_G_wipe hq_G ly_0 (by decide) (k_G_wipe l 117 M (Nat.le_refl _) (scv xv (i + 1))) rfl rfl (Nat.le_of_ble_eq_true rfl) ⟨Nat.le_refl _, Nat.le_refl _⟩ rfl (fun r' n' M1 h => ?_)
  obtain ⟨rfl, rfl, rfl⟩ := h
  show AP X b0 D b true 600000 7302250 Q 117 _ 427 [none, some (.inr 0), some (.inr 88), some (.inl i)] [.inl _]
  refine P_ald2 hC d_L_law_427 ?_
  refine P_scr (k := 1) hC hX hb hb0 d_L_law_428 d_L_law_429 d_L_law_430 d_L_law_431 d_L_law_432 (by omega) hL ?_
  show AP X b0 D b true 600000 7302250 Q 117 _ 433 [none, some (.inr 0), some (.inr 88), some (.inl i)] [.inl (scv xv (i + 1)), .inr 88, .inl _]
  refine P_callV (as := [.inl (scv xv (i + 1))]) hC d_L_law_433 mv_Mo_wipe lk_L_54 (by decide) sel_Mo_wipe hq_Mo ly_88 (by decide) (k_Mo_wipe l 117 _ (Nat.le_refl _) (scv xv (i + 1))) rfl rfl (Nat.le_of_ble_eq_true rfl) ⟨Nat.le_refl _, Nat.le_refl _⟩ rfl (fun r' n' M1 h => ?_)
  obtain ⟨rfl, rfl, rfl⟩ := h
  show AP X b0 D b true 600000 7302250 Q 117 _ 436 [none, some (.inr 0), some (.inr 88), some (.inl i)] [.inl _, .inl _]
  have hO := O_wipe hR (scv xv (i + 1))
  refine P_icmpeq (tgt := 579) hC d_L_law_436 (by decide) (fun hq => ?_) (fun hq => ?_)
  · exact next _ hO.2
  · first | exact absurd hO.1 hq | exact absurd rfl hq
set_option maxHeartbeats 4000000 in
theorem law_10 {X : Cx} {b0 : Nat} {D : DD} {b : Nat} {Q : State → Prop} {l : Launch} {L : Nat} {xv : Nat → Int32} (hC : CX X b0 D code R_L 4 (some .boolean) l 100 600000 7302250) (hX : va_X b L xv (xs X) (xs X).heap) (hb : b < b0) (hb0 : b0 = (xs X).heap.size) (hL : L ≤ 2560) (i : Int) (hi : 0 ≤ i ∧ i + 5 ≤ L) (M : Mem) (hR : REL M) (next : ∀ M2 : Mem, REL M2 → AP X b0 D b true 600000 7302250 Q 117 M2 579 [none, some (.inr 0), some (.inr 88), some (.inl i)] []) : AP X b0 D b true 600000 7302250 Q 117 M 464 [none, some (.inr 0), some (.inr 88), some (.inl i)] [] := by
  have hSC : SC M := hR.1.1.1
  have hRC : RC M := hR.1.2.2.2.2.1
  have hTX : TX M := hR.1.2.1.1.1
  refine P_ald1 hC d_L_law_464 ?_
  refine P_callV (as := []) hC d_L_law_465 mv_G_place lk_L_59 (by decide) sel_G_place hq_G ly_0 (by decide) (k_G_place l 117 M (Nat.le_refl _)) rfl rfl (Nat.le_of_ble_eq_true rfl) ⟨Nat.le_refl _, Nat.le_refl _⟩ rfl (fun r' n' M1 h => ?_)
  obtain ⟨rfl, rfl, hMM⟩ := h
  rw [hMM]
  show AP X b0 D b true 600000 7302250 Q 117 _ 468 [none, some (.inr 0), some (.inr 88), some (.inl i)] [.inl _]
  refine P_ald2 hC d_L_law_468 ?_
  refine P_callV (as := []) hC d_L_law_469 mv_Mo_place lk_L_62 (by decide) sel_Mo_place hq_Mo ly_88 (by decide) (k_Mo_place l 117 M (Nat.le_refl _)) rfl rfl (Nat.le_of_ble_eq_true rfl) ⟨Nat.le_refl _, Nat.le_refl _⟩ rfl (fun r' n' M1 h => ?_)
  obtain ⟨rfl, rfl, hMM⟩ := h
  rw [hMM]
  show AP X b0 D b true 600000 7302250 Q 117 _ 472 [none, some (.inr 0), some (.inr 88), some (.inl i)] [.inl _, .inl _]
  have hO := And.intro hR.2.2.1.symm hR
  refine P_icmpeq (tgt := 579) hC d_L_law_472 (by decide) (fun hq => ?_) (fun hq => ?_)
  · exact next _ hO.2
  · first | exact absurd hO.1 hq | exact absurd rfl hq
set_option maxHeartbeats 4000000 in
theorem law_12 {X : Cx} {b0 : Nat} {D : DD} {b : Nat} {Q : State → Prop} {l : Launch} {L : Nat} {xv : Nat → Int32} (hC : CX X b0 D code R_L 4 (some .boolean) l 100 600000 7302250) (hX : va_X b L xv (xs X) (xs X).heap) (hb : b < b0) (hb0 : b0 = (xs X).heap.size) (hL : L ≤ 2560) (i : Int) (hi : 0 ≤ i ∧ i + 5 ≤ L) (M : Mem) (hR : REL M) (next : ∀ M2 : Mem, REL M2 → AP X b0 D b true 600000 7302250 Q 117 M2 579 [none, some (.inr 0), some (.inr 88), some (.inl i)] []) : AP X b0 D b true 600000 7302250 Q 117 M 500 [none, some (.inr 0), some (.inr 88), some (.inl i)] [] := by
  have hSC : SC M := hR.1.1.1
  have hRC : RC M := hR.1.2.2.2.2.1
  have hTX : TX M := hR.1.2.1.1.1
  refine P_ald1 hC d_L_law_500 ?_
  refine P_scr (k := 1) hC hX hb hb0 d_L_law_501 d_L_law_502 d_L_law_503 d_L_law_504 d_L_law_505 (by omega) hL ?_
  show AP X b0 D b true 600000 7302250 Q 117 _ 506 [none, some (.inr 0), some (.inr 88), some (.inl i)] [.inl (scv xv (i + 1)), .inr 0]
  refine P_callV (as := [.inl (scv xv (i + 1))]) hC d_L_law_506 mv_G_code lk_L_67 (by decide) sel_G_code hq_G ly_0 (by decide) (k_G_code l 117 M (Nat.le_refl _) (O_code hR (scv xv (i + 1))).1 (scv xv (i + 1))) rfl rfl (Nat.le_of_ble_eq_true rfl) ⟨Nat.le_refl _, Nat.le_refl _⟩ rfl (fun r' n' M1 h => ?_)
  obtain ⟨rfl, rfl, hMM⟩ := h
  rw [hMM]
  show AP X b0 D b true 600000 7302250 Q 117 _ 509 [none, some (.inr 0), some (.inr 88), some (.inl i)] [.inl _]
  refine P_ald2 hC d_L_law_509 ?_
  refine P_scr (k := 1) hC hX hb hb0 d_L_law_510 d_L_law_511 d_L_law_512 d_L_law_513 d_L_law_514 (by omega) hL ?_
  show AP X b0 D b true 600000 7302250 Q 117 _ 515 [none, some (.inr 0), some (.inr 88), some (.inl i)] [.inl (scv xv (i + 1)), .inr 88, .inl _]
  refine P_callV (as := [.inl (scv xv (i + 1))]) hC d_L_law_515 mv_Mo_code lk_L_70 (by decide) sel_Mo_code hq_Mo ly_88 (by decide) (k_Mo_code l 117 M (Nat.le_refl _) (O_code hR (scv xv (i + 1))).2.1 (scv xv (i + 1))) rfl rfl (Nat.le_of_ble_eq_true rfl) ⟨Nat.le_refl _, Nat.le_refl _⟩ rfl (fun r' n' M1 h => ?_)
  obtain ⟨rfl, rfl, hMM⟩ := h
  rw [hMM]
  show AP X b0 D b true 600000 7302250 Q 117 _ 518 [none, some (.inr 0), some (.inr 88), some (.inl i)] [.inl _, .inl _]
  have hO := And.intro (O_code hR (scv xv (i + 1))).2.2 hR
  refine P_icmpeq (tgt := 579) hC d_L_law_518 (by decide) (fun hq => ?_) (fun hq => ?_)
  · exact next _ hO.2
  · first | exact absurd hO.1 hq | exact absurd rfl hq
set_option maxHeartbeats 4000000 in
theorem law_13 {X : Cx} {b0 : Nat} {D : DD} {b : Nat} {Q : State → Prop} {l : Launch} {L : Nat} {xv : Nat → Int32} (hC : CX X b0 D code R_L 4 (some .boolean) l 100 600000 7302250) (hX : va_X b L xv (xs X) (xs X).heap) (hb : b < b0) (hb0 : b0 = (xs X).heap.size) (hL : L ≤ 2560) (i : Int) (hi : 0 ≤ i ∧ i + 5 ≤ L) (M : Mem) (hR : REL M) (next : ∀ M2 : Mem, REL M2 → AP X b0 D b true 600000 7302250 Q 117 M2 579 [none, some (.inr 0), some (.inr 88), some (.inl i)] []) : AP X b0 D b true 600000 7302250 Q 117 M 523 [none, some (.inr 0), some (.inr 88), some (.inl i)] [] := by
  have hSC : SC M := hR.1.1.1
  have hRC : RC M := hR.1.2.2.2.2.1
  have hTX : TX M := hR.1.2.1.1.1
  refine P_ald1 hC d_L_law_523 ?_
  refine P_scr (k := 1) hC hX hb hb0 d_L_law_524 d_L_law_525 d_L_law_526 d_L_law_527 d_L_law_528 (by omega) hL ?_
  show AP X b0 D b true 600000 7302250 Q 117 _ 529 [none, some (.inr 0), some (.inr 88), some (.inl i)] [.inl (scv xv (i + 1)), .inr 0]
  refine P_scr (k := 2) hC hX hb hb0 d_L_law_529 d_L_law_530 d_L_law_531 d_L_law_532 d_L_law_533 (by omega) hL ?_
  show AP X b0 D b true 600000 7302250 Q 117 _ 534 [none, some (.inr 0), some (.inr 88), some (.inl i)] [.inl (scv xv (i + 2)), .inl (scv xv (i + 1)), .inr 0]
  refine P_callV (as := [.inl (scv xv (i + 1)), .inl (scv xv (i + 2))]) hC d_L_law_534 mv_G_missing lk_L_71 (by decide) sel_G_missing hq_G ly_0 (by decide) (k_G_missing l 117 M (Nat.le_refl _) (O_missing hR (scv xv (i + 1)) (scv xv (i + 2))).1 (scv xv (i + 1)) (scv xv (i + 2))) rfl rfl (Nat.le_of_ble_eq_true rfl) ⟨Nat.le_refl _, Nat.le_refl _⟩ rfl (fun r' n' M1 h => ?_)
  obtain ⟨rfl, rfl, hMM⟩ := h
  rw [hMM]
  show AP X b0 D b true 600000 7302250 Q 117 _ 537 [none, some (.inr 0), some (.inr 88), some (.inl i)] [.inl _]
  refine P_ald2 hC d_L_law_537 ?_
  refine P_scr (k := 1) hC hX hb hb0 d_L_law_538 d_L_law_539 d_L_law_540 d_L_law_541 d_L_law_542 (by omega) hL ?_
  show AP X b0 D b true 600000 7302250 Q 117 _ 543 [none, some (.inr 0), some (.inr 88), some (.inl i)] [.inl (scv xv (i + 1)), .inr 88, .inl _]
  refine P_scr (k := 2) hC hX hb hb0 d_L_law_543 d_L_law_544 d_L_law_545 d_L_law_546 d_L_law_547 (by omega) hL ?_
  show AP X b0 D b true 600000 7302250 Q 117 _ 548 [none, some (.inr 0), some (.inr 88), some (.inl i)] [.inl (scv xv (i + 2)), .inl (scv xv (i + 1)), .inr 88, .inl _]
  refine P_callV (as := [.inl (scv xv (i + 1)), .inl (scv xv (i + 2))]) hC d_L_law_548 mv_Mo_missing lk_L_74 (by decide) sel_Mo_missing hq_Mo ly_88 (by decide) (k_Mo_missing l 117 M (Nat.le_refl _) (scv xv (i + 1)) (scv xv (i + 2)) (O_missing hR (scv xv (i + 1)) (scv xv (i + 2))).2.1 (O_missing hR (scv xv (i + 1)) (scv xv (i + 2))).2.2.1) rfl rfl (Nat.le_of_ble_eq_true rfl) ⟨Nat.le_refl _, Nat.le_refl _⟩ rfl (fun r' n' M1 h => ?_)
  obtain ⟨rfl, rfl, hMM⟩ := h
  rw [hMM]
  show AP X b0 D b true 600000 7302250 Q 117 _ 551 [none, some (.inr 0), some (.inr 88), some (.inl i)] [.inl _, .inl _]
  have hO := And.intro (O_missing hR (scv xv (i + 1)) (scv xv (i + 2))).2.2.2 hR
  refine P_icmpeq (tgt := 579) hC d_L_law_551 (by decide) (fun hq => ?_) (fun hq => ?_)
  · exact next _ hO.2
  · first | exact absurd hO.1 hq | exact absurd rfl hq
set_option maxHeartbeats 4000000 in
theorem law_14 {X : Cx} {b0 : Nat} {D : DD} {b : Nat} {Q : State → Prop} {l : Launch} {L : Nat} {xv : Nat → Int32} (hC : CX X b0 D code R_L 4 (some .boolean) l 100 600000 7302250) (hX : va_X b L xv (xs X) (xs X).heap) (hb : b < b0) (hb0 : b0 = (xs X).heap.size) (hL : L ≤ 2560) (i : Int) (hi : 0 ≤ i ∧ i + 5 ≤ L) (M : Mem) (hR : REL M) (next : ∀ M2 : Mem, REL M2 → AP X b0 D b true 600000 7302250 Q 117 M2 579 [none, some (.inr 0), some (.inr 88), some (.inl i)] []) : AP X b0 D b true 600000 7302250 Q 117 M 556 [none, some (.inr 0), some (.inr 88), some (.inl i)] [] := by
  have hSC : SC M := hR.1.1.1
  have hRC : RC M := hR.1.2.2.2.2.1
  have hTX : TX M := hR.1.2.1.1.1
  refine P_ald1 hC d_L_law_556 ?_
  refine P_scr (k := 1) hC hX hb hb0 d_L_law_557 d_L_law_558 d_L_law_559 d_L_law_560 d_L_law_561 (by omega) hL ?_
  show AP X b0 D b true 600000 7302250 Q 117 _ 562 [none, some (.inr 0), some (.inr 88), some (.inl i)] [.inl (scv xv (i + 1)), .inr 0]
  refine P_callV (as := [.inl (scv xv (i + 1))]) hC d_L_law_562 mv_G_count lk_L_75 (by decide) sel_G_count hq_G ly_0 (by decide) (k_G_count l 117 M (Nat.le_refl _) (scv xv (i + 1))) rfl rfl (Nat.le_of_ble_eq_true rfl) ⟨Nat.le_refl _, Nat.le_refl _⟩ rfl (fun r' n' M1 h => ?_)
  obtain ⟨rfl, rfl, hMM⟩ := h
  rw [hMM]
  show AP X b0 D b true 600000 7302250 Q 117 _ 565 [none, some (.inr 0), some (.inr 88), some (.inl i)] [.inl _]
  refine P_ald2 hC d_L_law_565 ?_
  refine P_scr (k := 1) hC hX hb hb0 d_L_law_566 d_L_law_567 d_L_law_568 d_L_law_569 d_L_law_570 (by omega) hL ?_
  show AP X b0 D b true 600000 7302250 Q 117 _ 571 [none, some (.inr 0), some (.inr 88), some (.inl i)] [.inl (scv xv (i + 1)), .inr 88, .inl _]
  refine P_callV (as := [.inl (scv xv (i + 1))]) hC d_L_law_571 mv_Mo_count lk_L_78 (by decide) sel_Mo_count hq_Mo ly_88 (by decide) (k_Mo_count l 117 M (Nat.le_refl _) (scv xv (i + 1))) rfl rfl (Nat.le_of_ble_eq_true rfl) ⟨Nat.le_refl _, Nat.le_refl _⟩ rfl (fun r' n' M1 h => ?_)
  obtain ⟨rfl, rfl, hMM⟩ := h
  rw [hMM]
  show AP X b0 D b true 600000 7302250 Q 117 _ 574 [none, some (.inr 0), some (.inr 88), some (.inl i)] [.inl _, .inl _]
  have hO := And.intro (O_count hR (scv xv (i + 1))) hR
  refine P_icmpeq (tgt := 579) hC d_L_law_574 (by decide) (fun hq => ?_) (fun hq => ?_)
  · exact next _ hO.2
  · first | exact absurd hO.1 hq | exact absurd rfl hq
set_option maxHeartbeats 4000000 in
theorem law_1 {X : Cx} {b0 : Nat} {D : DD} {b : Nat} {Q : State → Prop} {l : Launch} {L : Nat} {xv : Nat → Int32} (hC : CX X b0 D code R_L 4 (some .boolean) l 100 600000 7302250) (hX : va_X b L xv (xs X) (xs X).heap) (hb : b < b0) (hb0 : b0 = (xs X).heap.size) (hL : L ≤ 2560) (i : Int) (hi : 0 ≤ i ∧ i + 5 ≤ L) (M : Mem) (hR : REL M) (next : ∀ M2 : Mem, REL M2 → AP X b0 D b true 600000 7302250 Q 117 M2 579 [none, some (.inr 0), some (.inr 88), some (.inl i)] []) : AP X b0 D b true 600000 7302250 Q 117 M 121 [none, some (.inr 0), some (.inr 88), some (.inl i)] [] := by
  have hSC : SC M := hR.1.1.1
  have hRC : RC M := hR.1.2.2.2.2.1
  have hTX : TX M := hR.1.2.1.1.1
  refine P_ald1 hC d_L_law_121 ?_
  refine P_scr (k := 1) hC hX hb hb0 d_L_law_122 d_L_law_123 d_L_law_124 d_L_law_125 d_L_law_126 (by omega) hL ?_
  show AP X b0 D b true 600000 7302250 Q 117 _ 127 [none, some (.inr 0), some (.inr 88), some (.inl i)] [.inl (scv xv (i + 1)), .inr 0]
  refine P_scr (k := 2) hC hX hb hb0 d_L_law_127 d_L_law_128 d_L_law_129 d_L_law_130 d_L_law_131 (by omega) hL ?_
  show AP X b0 D b true 600000 7302250 Q 117 _ 132 [none, some (.inr 0), some (.inr 88), some (.inl i)] [.inl (scv xv (i + 2)), .inl (scv xv (i + 1)), .inr 0]
  refine P_scr (k := 3) hC hX hb hb0 d_L_law_132 d_L_law_133 d_L_law_134 d_L_law_135 d_L_law_136 (by omega) hL ?_
  show AP X b0 D b true 600000 7302250 Q 117 _ 137 [none, some (.inr 0), some (.inr 88), some (.inl i)] [.inl (scv xv (i + 3)), .inl (scv xv (i + 2)), .inl (scv xv (i + 1)), .inr 0]
  refine P_scr (k := 4) hC hX hb hb0 d_L_law_137 d_L_law_138 d_L_law_139 d_L_law_140 d_L_law_141 (by omega) hL ?_
  show AP X b0 D b true 600000 7302250 Q 117 _ 142 [none, some (.inr 0), some (.inr 88), some (.inl i)] [.inl (scv xv (i + 4)), .inl (scv xv (i + 3)), .inl (scv xv (i + 2)), .inl (scv xv (i + 1)), .inr 0]
  refine P_ifeq (tgt := 149) hC d_L_law_142 (by decide) (fun h142 => ?_) (fun h142 => ?_)
  · refine P_iconst hC d_L_law_149 (by decide) ?_
    show AP X b0 D b true 600000 7302250 Q 117 _ 150 [none, some (.inr 0), some (.inr 88), some (.inl i)] [.inl 0, .inl (scv xv (i + 3)), .inl (scv xv (i + 2)), .inl (scv xv (i + 1)), .inr 0]
    refine P_callV (as := [.inl (scv xv (i + 1)), .inl (scv xv (i + 2)), .inl (scv xv (i + 3)), .inl 0]) hC d_L_law_150 mv_G_field lk_L_18 (by decide) sel_G_field hq_G ly_0 (by decide) (k_G_field l 117 M (Nat.le_refl _) hSC (scv xv (i + 1)) (scv xv (i + 2)) (scv xv (i + 3)) 0 (by decide)) rfl rfl (Nat.le_of_ble_eq_true rfl) ⟨Nat.le_refl _, Nat.le_refl _⟩ rfl (fun r' n' M1 h => ?_)
    obtain ⟨rfl, rfl, rfl⟩ := h
    show AP X b0 D b true 600000 7302250 Q 117 _ 153 [none, some (.inr 0), some (.inr 88), some (.inl i)] [.inl _]
    refine P_ald2 hC d_L_law_153 ?_
    refine P_scr (k := 1) hC hX hb hb0 d_L_law_154 d_L_law_155 d_L_law_156 d_L_law_157 d_L_law_158 (by omega) hL ?_
    show AP X b0 D b true 600000 7302250 Q 117 _ 159 [none, some (.inr 0), some (.inr 88), some (.inl i)] [.inl (scv xv (i + 1)), .inr 88, .inl _]
    refine P_scr (k := 2) hC hX hb hb0 d_L_law_159 d_L_law_160 d_L_law_161 d_L_law_162 d_L_law_163 (by omega) hL ?_
    show AP X b0 D b true 600000 7302250 Q 117 _ 164 [none, some (.inr 0), some (.inr 88), some (.inl i)] [.inl (scv xv (i + 2)), .inl (scv xv (i + 1)), .inr 88, .inl _]
    refine P_scr (k := 3) hC hX hb hb0 d_L_law_164 d_L_law_165 d_L_law_166 d_L_law_167 d_L_law_168 (by omega) hL ?_
    show AP X b0 D b true 600000 7302250 Q 117 _ 169 [none, some (.inr 0), some (.inr 88), some (.inl i)] [.inl (scv xv (i + 3)), .inl (scv xv (i + 2)), .inl (scv xv (i + 1)), .inr 88, .inl _]
    refine P_scr (k := 4) hC hX hb hb0 d_L_law_169 d_L_law_170 d_L_law_171 d_L_law_172 d_L_law_173 (by omega) hL ?_
    show AP X b0 D b true 600000 7302250 Q 117 _ 174 [none, some (.inr 0), some (.inr 88), some (.inl i)] [.inl (scv xv (i + 4)), .inl (scv xv (i + 3)), .inl (scv xv (i + 2)), .inl (scv xv (i + 1)), .inr 88, .inl _]
    refine P_ifeq (tgt := 181) hC d_L_law_174 (by decide) (fun h174 => ?_) (fun h174 => ?_)
    · refine P_iconst hC d_L_law_181 (by decide) ?_
      show AP X b0 D b true 600000 7302250 Q 117 _ 182 [none, some (.inr 0), some (.inr 88), some (.inl i)] [.inl 0, .inl (scv xv (i + 3)), .inl (scv xv (i + 2)), .inl (scv xv (i + 1)), .inr 88, .inl _]
      refine P_callV (as := [.inl (scv xv (i + 1)), .inl (scv xv (i + 2)), .inl (scv xv (i + 3)), .inl 0]) hC d_L_law_182 mv_Mo_field lk_L_22 (by decide) sel_Mo_field hq_Mo ly_88 (by decide) (k_Mo_field l 117 _ (Nat.le_refl _) (MB_c (M := M) (fun c y q => by (repeat (first | rfl | split | rw [up_nc (by omega)]))) hR.2.1.1.2.1) (scv xv (i + 1)) (scv xv (i + 2)) (scv xv (i + 3)) 0) rfl rfl (Nat.le_of_ble_eq_true rfl) ⟨Nat.le_refl _, Nat.le_refl _⟩ rfl (fun r' n' M1 h => ?_)
      obtain ⟨rfl, rfl, rfl⟩ := h
      show AP X b0 D b true 600000 7302250 Q 117 _ 185 [none, some (.inr 0), some (.inr 88), some (.inl i)] [.inl _, .inl _]
      have hO := O_field hR (scv xv (i + 1)) (scv xv (i + 2)) (scv xv (i + 3)) 0 (by decide)
      refine P_icmpeq (tgt := 579) hC d_L_law_185 (by decide) (fun hq => ?_) (fun hq => ?_)
      · exact next _ hO.2
      · first | exact absurd hO.1 hq | exact absurd rfl hq
    · exact absurd h174 (fun w => w h142)
  · refine P_iconst hC d_L_law_145 (by decide) ?_
    refine P_goto (tgt := 150) hC d_L_law_146 (by decide) ?_
    show AP X b0 D b true 600000 7302250 Q 117 _ 150 [none, some (.inr 0), some (.inr 88), some (.inl i)] [.inl 1, .inl (scv xv (i + 3)), .inl (scv xv (i + 2)), .inl (scv xv (i + 1)), .inr 0]
    refine P_callV (as := [.inl (scv xv (i + 1)), .inl (scv xv (i + 2)), .inl (scv xv (i + 3)), .inl 1]) hC d_L_law_150 mv_G_field lk_L_18 (by decide) sel_G_field hq_G ly_0 (by decide) (k_G_field l 117 M (Nat.le_refl _) hSC (scv xv (i + 1)) (scv xv (i + 2)) (scv xv (i + 3)) 1 (by decide)) rfl rfl (Nat.le_of_ble_eq_true rfl) ⟨Nat.le_refl _, Nat.le_refl _⟩ rfl (fun r' n' M1 h => ?_)
    obtain ⟨rfl, rfl, rfl⟩ := h
    show AP X b0 D b true 600000 7302250 Q 117 _ 153 [none, some (.inr 0), some (.inr 88), some (.inl i)] [.inl _]
    refine P_ald2 hC d_L_law_153 ?_
    refine P_scr (k := 1) hC hX hb hb0 d_L_law_154 d_L_law_155 d_L_law_156 d_L_law_157 d_L_law_158 (by omega) hL ?_
    show AP X b0 D b true 600000 7302250 Q 117 _ 159 [none, some (.inr 0), some (.inr 88), some (.inl i)] [.inl (scv xv (i + 1)), .inr 88, .inl _]
    refine P_scr (k := 2) hC hX hb hb0 d_L_law_159 d_L_law_160 d_L_law_161 d_L_law_162 d_L_law_163 (by omega) hL ?_
    show AP X b0 D b true 600000 7302250 Q 117 _ 164 [none, some (.inr 0), some (.inr 88), some (.inl i)] [.inl (scv xv (i + 2)), .inl (scv xv (i + 1)), .inr 88, .inl _]
    refine P_scr (k := 3) hC hX hb hb0 d_L_law_164 d_L_law_165 d_L_law_166 d_L_law_167 d_L_law_168 (by omega) hL ?_
    show AP X b0 D b true 600000 7302250 Q 117 _ 169 [none, some (.inr 0), some (.inr 88), some (.inl i)] [.inl (scv xv (i + 3)), .inl (scv xv (i + 2)), .inl (scv xv (i + 1)), .inr 88, .inl _]
    refine P_scr (k := 4) hC hX hb hb0 d_L_law_169 d_L_law_170 d_L_law_171 d_L_law_172 d_L_law_173 (by omega) hL ?_
    show AP X b0 D b true 600000 7302250 Q 117 _ 174 [none, some (.inr 0), some (.inr 88), some (.inl i)] [.inl (scv xv (i + 4)), .inl (scv xv (i + 3)), .inl (scv xv (i + 2)), .inl (scv xv (i + 1)), .inr 88, .inl _]
    refine P_ifeq (tgt := 181) hC d_L_law_174 (by decide) (fun h174 => ?_) (fun h174 => ?_)
    · exact absurd h174 h142
    · refine P_iconst hC d_L_law_177 (by decide) ?_
      refine P_goto (tgt := 182) hC d_L_law_178 (by decide) ?_
      show AP X b0 D b true 600000 7302250 Q 117 _ 182 [none, some (.inr 0), some (.inr 88), some (.inl i)] [.inl 1, .inl (scv xv (i + 3)), .inl (scv xv (i + 2)), .inl (scv xv (i + 1)), .inr 88, .inl _]
      refine P_callV (as := [.inl (scv xv (i + 1)), .inl (scv xv (i + 2)), .inl (scv xv (i + 3)), .inl 1]) hC d_L_law_182 mv_Mo_field lk_L_22 (by decide) sel_Mo_field hq_Mo ly_88 (by decide) (k_Mo_field l 117 _ (Nat.le_refl _) (MB_c (M := M) (fun c y q => by (repeat (first | rfl | split | rw [up_nc (by omega)]))) hR.2.1.1.2.1) (scv xv (i + 1)) (scv xv (i + 2)) (scv xv (i + 3)) 1) rfl rfl (Nat.le_of_ble_eq_true rfl) ⟨Nat.le_refl _, Nat.le_refl _⟩ rfl (fun r' n' M1 h => ?_)
      obtain ⟨rfl, rfl, rfl⟩ := h
      show AP X b0 D b true 600000 7302250 Q 117 _ 185 [none, some (.inr 0), some (.inr 88), some (.inl i)] [.inl _, .inl _]
      have hO := O_field hR (scv xv (i + 1)) (scv xv (i + 2)) (scv xv (i + 3)) 1 (by decide)
      refine P_icmpeq (tgt := 579) hC d_L_law_185 (by decide) (fun hq => ?_) (fun hq => ?_)
      · exact next _ hO.2
      · first | exact absurd hO.1 hq | exact absurd rfl hq
set_option maxHeartbeats 4000000 in
theorem law_9 {X : Cx} {b0 : Nat} {D : DD} {b : Nat} {Q : State → Prop} {l : Launch} {L : Nat} {xv : Nat → Int32} (hC : CX X b0 D code R_L 4 (some .boolean) l 100 600000 7302250) (hX : va_X b L xv (xs X) (xs X).heap) (hb : b < b0) (hb0 : b0 = (xs X).heap.size) (hL : L ≤ 2560) (i : Int) (hi : 0 ≤ i ∧ i + 5 ≤ L) (M : Mem) (hR : REL M) (next : ∀ M2 : Mem, REL M2 → AP X b0 D b true 600000 7302250 Q 117 M2 579 [none, some (.inr 0), some (.inr 88), some (.inl i)] []) : AP X b0 D b true 600000 7302250 Q 117 M 441 [none, some (.inr 0), some (.inr 88), some (.inl i)] [] := by
  have hSC : SC M := hR.1.1.1
  have hRC : RC M := hR.1.2.2.2.2.1
  have hTX : TX M := hR.1.2.1.1.1
  refine P_ald1 hC d_L_law_441 ?_
  refine P_scr (k := 1) hC hX hb hb0 d_L_law_442 d_L_law_443 d_L_law_444 d_L_law_445 d_L_law_446 (by omega) hL ?_
  show AP X b0 D b true 600000 7302250 Q 117 _ 447 [none, some (.inr 0), some (.inr 88), some (.inl i)] [.inl (scv xv (i + 1)), .inr 0]
  refine P_callV (as := [.inl (scv xv (i + 1))]) hC d_L_law_447 mv_G_check lk_L_55 (by decide) sel_G_check hq_G ly_0 (by decide) (k_G_check l 117 M (Nat.le_refl _) (WP_of hR) (scv xv (i + 1))) rfl rfl (Nat.le_of_ble_eq_true rfl) ⟨Nat.le_refl _, Nat.le_refl _⟩ rfl (fun r' n' M1 h => ?_)
  obtain ⟨rfl, rfl, rfl⟩ := h
  show AP X b0 D b true 600000 7302250 Q 117 _ 450 [none, some (.inr 0), some (.inr 88), some (.inl i)] [.inl _]
  refine P_ald2 hC d_L_law_450 ?_
  refine P_scr (k := 1) hC hX hb hb0 d_L_law_451 d_L_law_452 d_L_law_453 d_L_law_454 d_L_law_455 (by omega) hL ?_
  show AP X b0 D b true 600000 7302250 Q 117 _ 456 [none, some (.inr 0), some (.inr 88), some (.inl i)] [.inl (scv xv (i + 1)), .inr 88, .inl _]
  have hK := O_check hR (scv xv (i + 1))
  refine P_callV (as := [.inl (scv xv (i + 1))]) hC d_L_law_456 mv_Mo_check lk_L_58 (by decide) sel_Mo_check hq_Mo ly_88 (by decide) (k_Mo_check l 117 _ (Nat.le_refl _) M hK.1.1 hR.1.1 hR.1.2.1.1 hK.1.2 (scv xv (i + 1))) rfl rfl (Nat.le_of_ble_eq_true rfl) ⟨Nat.le_refl _, Nat.le_refl _⟩ rfl (fun r' n' M1 h => ?_)
  obtain ⟨rfl, rfl, h⟩ := h
  have hO := And.intro hK.2.1 (hK.2.2 M1 h)
  show AP X b0 D b true 600000 7302250 Q 117 _ 459 [none, some (.inr 0), some (.inr 88), some (.inl i)] [.inl _, .inl _]
  refine P_icmpeq (tgt := 579) hC d_L_law_459 (by decide) (fun hq => ?_) (fun hq => ?_)
  · exact next _ hO.2
  · first | exact absurd hO.1 hq | exact absurd rfl hq
set_option maxHeartbeats 4000000 in
theorem law_11 {X : Cx} {b0 : Nat} {D : DD} {b : Nat} {Q : State → Prop} {l : Launch} {L : Nat} {xv : Nat → Int32} (hC : CX X b0 D code R_L 4 (some .boolean) l 100 600000 7302250) (hX : va_X b L xv (xs X) (xs X).heap) (hb : b < b0) (hb0 : b0 = (xs X).heap.size) (hL : L ≤ 2560) (i : Int) (hi : 0 ≤ i ∧ i + 5 ≤ L) (M : Mem) (hR : REL M) (next : ∀ M2 : Mem, REL M2 → AP X b0 D b true 600000 7302250 Q 117 M2 579 [none, some (.inr 0), some (.inr 88), some (.inl i)] []) : AP X b0 D b true 600000 7302250 Q 117 M 477 [none, some (.inr 0), some (.inr 88), some (.inl i)] [] := by
  have hSC : SC M := hR.1.1.1
  have hRC : RC M := hR.1.2.2.2.2.1
  have hTX : TX M := hR.1.2.1.1.1
  refine P_ald1 hC d_L_law_477 ?_
  refine P_scr (k := 1) hC hX hb hb0 d_L_law_478 d_L_law_479 d_L_law_480 d_L_law_481 d_L_law_482 (by omega) hL ?_
  show AP X b0 D b true 600000 7302250 Q 117 _ 483 [none, some (.inr 0), some (.inr 88), some (.inl i)] [.inl (scv xv (i + 1)), .inr 0]
  refine P_callV (as := [.inl (scv xv (i + 1))]) hC d_L_law_483 mv_G_ask lk_L_63 (by decide) sel_G_ask hq_G ly_0 (by decide) (k_G_ask l 117 M (Nat.le_refl _) (WP_of hR) hR.1.2.1.1 hR.1.2.2.1 hRC.2 hR.1.2.2.2.2.2.2 (scv xv (i + 1))) rfl rfl (Nat.le_of_ble_eq_true rfl) ⟨Nat.le_refl _, Nat.le_refl _⟩ rfl (fun r' n' M1 h => ?_)
  obtain ⟨rfl, v, rfl, h⟩ := h
  obtain ⟨m, hRF, hEX, hfin⟩ := O_ask hR (scv xv (i + 1)) v M1 h
  show AP X b0 D b true 600000 7302250 Q 117 _ 486 [none, some (.inr 0), some (.inr 88), some (.inl i)] [.inl (v)]
  refine P_ald2 hC d_L_law_486 ?_
  refine P_scr (k := 1) hC hX hb hb0 d_L_law_487 d_L_law_488 d_L_law_489 d_L_law_490 d_L_law_491 (by omega) hL ?_
  show AP X b0 D b true 600000 7302250 Q 117 _ 492 [none, some (.inr 0), some (.inr 88), some (.inl i)] [.inl (scv xv (i + 1)), .inr 88, .inl (v)]
  refine P_callV (as := [.inl (scv xv (i + 1))]) hC d_L_law_492 mv_Mo_ask lk_L_66 (by decide) sel_Mo_ask hq_Mo ly_88 (by decide) (k_Mo_ask l 117 M1 (Nat.le_refl _) M (wQ M (M 7 (scv xv (i + 1) - 1))).2 m (scv xv (i + 1)) hRF hR.1.1 hR.1.2.1.1 hEX) rfl rfl (Nat.le_of_ble_eq_true rfl) ⟨Nat.le_refl _, Nat.le_refl _⟩ rfl (fun r' n' M1 h => ?_)
  obtain ⟨rfl, v', rfl, h2⟩ := h
  have hO := hfin v' _ h2
  show AP X b0 D b true 600000 7302250 Q 117 _ 495 [none, some (.inr 0), some (.inr 88), some (.inl i)] [.inl (v'), .inl (v)]
  refine P_icmpeq (tgt := 579) hC d_L_law_495 (by decide) (fun hq => ?_) (fun hq => ?_)
  · exact next _ hO.2
  · first | exact absurd hO.1 hq | exact absurd rfl hq
