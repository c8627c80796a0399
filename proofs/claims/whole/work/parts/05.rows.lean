/-! ROWS of the abstract machine: one an instruction. -/
abbrev Cx := Program × Launch × Env × Room × State × MethodId × Array Value × List Frame × Method × Code
abbrev xp (X : Cx) : Program := X.1
abbrev xl (X : Cx) : Launch := X.2.1
abbrev xe (X : Cx) : Env := X.2.2.1
abbrev xR (X : Cx) : Room := X.2.2.2.1
abbrev xs (X : Cx) : State := X.2.2.2.2.1
abbrev xm (X : Cx) : MethodId := X.2.2.2.2.2.1
abbrev xa (X : Cx) : Array Value := X.2.2.2.2.2.2.1
abbrev xb (X : Cx) : List Frame := X.2.2.2.2.2.2.2.1
abbrev xt (X : Cx) : Method := X.2.2.2.2.2.2.2.2.1
abbrev xc (X : Cx) : Code := X.2.2.2.2.2.2.2.2.2
abbrev WX (X : Cx) (H : Heap) (locs : List Loc) (kc ks : Nat) (Q : State → Prop) (g : JFrame) : Prop := W (xp X) (xl X) (xe X) (xR X) (xs X) (xm X) (xa X) (xb X) (xt X) (xc X) H locs kc ks Q g
def AW (X : Cx) (b0 : Nat) (D : DD) (g : Bool) (kc ks : Nat) (Q : State → Prop) (n : Nat) (M : Mem) (pc : Nat) (la : List (Option AV)) (st : List AV) : Prop :=
  fx_okS st → fx_okL la → fx_okM g M → ∀ (H : Heap) (locs : List Loc) (ls : Array Slot), Wd b0 D n M H → va_S (fun q => b0 ≤ q) (xs X).heap H locs → fx_L b0 ls la → WX X H locs kc ks Q (F0 (xm X) pc ls (st.map (fx_co b0)))
/-- of a state: the classes and array classes as the tables have them; the array of steps can be made; the links between nest mates -/
def fx_KK (D : DD) (U : State) : Prop := va_K D.1 vwCl (fx_tys D) U ∧ va_AO fx_elem U ∧ ∀ q ∈ fx_nest, va_Nw (.methodLinkNest q.1 q.2.1 q.2.2.1 q.2.2.2) U
theorem fx_KK.warm {D : DD} {u U : State} (hW : u.WarmedH U.vm) (h : fx_KK D u) : fx_KK D U := ⟨h.1.moved hW.alike, va_AO.moved hW.alike h.2.1, fun q hq => va_Nw.warmM hW (h.2.2 q hq)⟩
theorem fx_KK.same {D : DD} {u U : State} (e : u.vm = U.vm) (h : fx_KK D u) : fx_KK D U := ⟨h.1.moved (e ▸ Vm.Alike.refl u.vm), va_AO.moved (e ▸ Vm.Alike.refl u.vm) h.2.1, fun q hq => va_Nw.same rfl e (h.2.2 q hq)⟩
def CX (X : Cx) (b0 : Nat) (D : DD) (cc : ByteArray) (own : String) (nL : Nat) (ret : Option FieldType) (l : Launch) (rk mc ms : Nat) : Prop :=
  (xp X).tables.exec = Jvm.exec ∧ (xc X).code = cc ∧ (xc X).maxLocals = nL ∧ (xs X).vm.findClass own = some (xm X).cls ∧ (∀ w ∈ zG, w.before (xa X) (xs X) = true) ∧ fx_KK D (xs X) ∧ b0 ≤ (xs X).heap.size ∧ (xt X).locks = false ∧ (xt X).sig.returnType = ret ∧ xl X = l ∧ rk ≤ (xR X).frames ∧ 40 * rk ≤ (xR X).locals ∧ mc ≤ (xR X).cells ∧ ms ≤ (xR X).slots
section CXs
variable {X : Cx} {b0 : Nat} {D : DD} {cc : ByteArray} {own : String} {nL : Nat} {ret : Option FieldType} {l : Launch} {rk mcR msR : Nat}
theorem cx_x (h : CX X b0 D cc own nL ret l rk mcR msR) : (xp X).tables.exec = Jvm.exec := h.1
theorem cx_b (h : CX X b0 D cc own nL ret l rk mcR msR) : (xc X).code = cc := h.2.1
theorem cx_ml (h : CX X b0 D cc own nL ret l rk mcR msR) : (xc X).maxLocals = nL := h.2.2.1
theorem cx_o (h : CX X b0 D cc own nL ret l rk mcR msR) : (xs X).vm.findClass own = some (xm X).cls := h.2.2.2.1
theorem cx_t (h : CX X b0 D cc own nL ret l rk mcR msR) : ∀ w ∈ zG, w.before (xa X) (xs X) = true := h.2.2.2.2.1
theorem cx_kk (h : CX X b0 D cc own nL ret l rk mcR msR) : fx_KK D (xs X) := h.2.2.2.2.2.1
theorem cx_k (h : CX X b0 D cc own nL ret l rk mcR msR) : va_K D.1 vwCl (fx_tys D) (xs X) := h.2.2.2.2.2.1.1
theorem cx_0 (h : CX X b0 D cc own nL ret l rk mcR msR) : b0 ≤ (xs X).heap.size := h.2.2.2.2.2.2.1
theorem cx_lk (h : CX X b0 D cc own nL ret l rk mcR msR) : (xt X).locks = false := h.2.2.2.2.2.2.2.1
theorem cx_rt (h : CX X b0 D cc own nL ret l rk mcR msR) : (xt X).sig.returnType = ret := h.2.2.2.2.2.2.2.2.1
theorem cx_l (h : CX X b0 D cc own nL ret l rk mcR msR) : xl X = l := h.2.2.2.2.2.2.2.2.2.1
theorem cx_R (h : CX X b0 D cc own nL ret l rk mcR msR) : rk ≤ (xR X).frames ∧ 40 * rk ≤ (xR X).locals ∧ mcR ≤ (xR X).cells ∧ msR ≤ (xR X).slots := h.2.2.2.2.2.2.2.2.2.2
end CXs
theorem fx_S1 {v : AV} {st : List AV} (h : fx_okS (v :: st)) : fx_ok v := h v List.mem_cons_self
theorem fx_St {v : AV} {st : List AV} (h : fx_okS (v :: st)) : fx_okS st := fun w hw => h w (List.mem_cons_of_mem _ hw)
theorem fx_Sc {v : AV} {st : List AV} (hv : fx_ok v) (h : fx_okS st) : fx_okS (v :: st) := fun w hw => by
  rcases List.mem_cons.mp hw with rfl | hw
  · exact hv
  · exact h w hw
theorem fx_La {la : List (Option AV)} {i : Nat} {v : AV} (h : fx_okL la) (hi : la[i]? = some (some v)) : fx_ok v := h v (List.mem_of_getElem? hi)
theorem fx_Ls {la : List (Option AV)} {i : Nat} {v : AV} (h : fx_okL la) (hv : fx_ok v) : fx_okL (la.set i (some v)) := fun w hw => by
  rcases List.mem_or_eq_of_mem_set hw with h1 | h1
  · exact h w h1
  · cases h1; exact hv
theorem fx_rs {b0 : Nat} {c : Int} (h : 0 ≤ c) : fx_rf b0 c = some (b0 + c.toNat) := by unfold fx_rf; rw [if_neg (by omega)]
theorem fx_rn {b0 : Nat} {c : Int} (h : c < 0) : fx_rf b0 c = none := by unfold fx_rf; rw [if_pos h]
theorem fx_cr {b0 : Nat} {c : Int} (h : 0 ≤ c) : fx_co b0 (.inr c) = .ref (b0 + c.toNat) := by show va_rf (fx_rf b0 c) = _; rw [fx_rs h]; rfl
theorem fx_cn {b0 : Nat} {c : Int} (h : c < 0) : fx_co b0 (.inr c) = .null := by show va_rf (fx_rf b0 c) = _; rw [fx_rn h]; rfl
theorem fx_lenL {b0 : Nat} {ls : Array Slot} {la : List (Option AV)} (h : fx_L b0 ls la) : ls.size = la.length := h.1
section ROWS
variable {X : Cx} {b0 : Nat} {D : DD} {g : Bool} {kc ks : Nat} {Q : State → Prop} {n : Nat} {M : Mem} {pc : Nat} {la : List (Option AV)} {st : List AV} {cc : ByteArray} {own : String} {nL : Nat} {ret : Option FieldType} {l : Launch} {rk mcR msR : Nat}
theorem A_rng (k : fx_okS st → fx_okL la → fx_okM g M → AW X b0 D g kc ks Q n M pc la st) : AW X b0 D g kc ks Q n M pc la st := fun h1 h2 h3 => k h1 h2 h3 h1 h2 h3
theorem A_wide {kc' ks' : Nat} (h1 : kc ≤ kc') (h2 : ks ≤ ks') (k : AW X b0 D g kc' ks' Q n M pc la st) : AW X b0 D g kc ks Q n M pc la st := fun a b c H locs ls d e f => W.widen h1 h2 (k a b c H locs ls d e f)
theorem A_iconst {v : Int} (hC : CX X b0 D cc own nL ret l rk mcR msR) (hd : decode cc pc = .ok (.iconst v, 1)) (hv : rg v) (k : AW X b0 D g kc ks Q n M (pc + 1) la (.inl v :: st)) : AW X b0 D g kc ks Q n M pc la st := by
  intro hs hl hm H locs ls hW hS hL
  exact lv_iconst (cx_x hC) (cx_b hC) hd rfl (k (fx_Sc hv hs) hl hm H locs ls hW hS hL)
theorem A_bipush {v : Int} (hC : CX X b0 D cc own nL ret l rk mcR msR) (hd : decode cc pc = .ok (.bipush v, 2)) (hv : rg v) (he : (Int8.ofInt v).toInt32 = Int32.ofInt v) (k : AW X b0 D g kc ks Q n M (pc + 2) la (.inl v :: st)) : AW X b0 D g kc ks Q n M pc la st := by
  intro hs hl hm H locs ls hW hS hL
  exact lv_bipush (cx_x hC) (cx_b hC) hd he (k (fx_Sc hv hs) hl hm H locs ls hW hS hL)
theorem A_sipush {v : Int} (hC : CX X b0 D cc own nL ret l rk mcR msR) (hd : decode cc pc = .ok (.sipush v, 3)) (hv : rg v) (he : (Int16.ofInt v).toInt32 = Int32.ofInt v) (k : AW X b0 D g kc ks Q n M (pc + 3) la (.inl v :: st)) : AW X b0 D g kc ks Q n M pc la st := by
  intro hs hl hm H locs ls hW hS hL
  exact lv_sipush (cx_x hC) (cx_b hC) hd he (k (fx_Sc hv hs) hl hm H locs ls hW hS hL)
theorem A_null (hC : CX X b0 D cc own nL ret l rk mcR msR) (hd : decode cc pc = .ok (.aconst_null, 1)) (k : AW X b0 D g kc ks Q n M (pc + 1) la (.inr (-1) :: st)) : AW X b0 D g kc ks Q n M pc la st := by
  intro hs hl hm H locs ls hW hS hL
  exact lv_null (cx_x hC) (cx_b hC) hd (k (fx_Sc (by decide) hs) hl hm H locs ls hW hS hL)
theorem A_iload_n {i : Nat} {k4 : Fin 4} {x : Int} (hC : CX X b0 D cc own nL ret l rk mcR msR) (hd : decode cc pc = .ok (.iload_n k4, 1)) (hk : (k4 : Nat) = i) (hi : la[i]? = some (some (.inl x))) (k : AW X b0 D g kc ks Q n M (pc + 1) la (.inl x :: st)) : AW X b0 D g kc ks Q n M pc la st := by
  intro hs hl hm H locs ls hW hS hL
  exact lv_iload_n (cx_x hC) (cx_b hC) hd hk (hL.2.2 i _ hi) (k (fx_Sc (fx_La hl hi) hs) hl hm H locs ls hW hS hL)
theorem A_iload {i : Nat} {x : Int} (hC : CX X b0 D cc own nL ret l rk mcR msR) (hd : decode cc pc = .ok (.iload i, 2)) (hi : la[i]? = some (some (.inl x))) (k : AW X b0 D g kc ks Q n M (pc + 2) la (.inl x :: st)) : AW X b0 D g kc ks Q n M pc la st := by
  intro hs hl hm H locs ls hW hS hL
  exact lv_iload (cx_x hC) (cx_b hC) hd (hL.2.2 i _ hi) (k (fx_Sc (fx_La hl hi) hs) hl hm H locs ls hW hS hL)
theorem A_aload_n {i : Nat} {k4 : Fin 4} {x : Int} (hC : CX X b0 D cc own nL ret l rk mcR msR) (hd : decode cc pc = .ok (.aload_n k4, 1)) (hk : (k4 : Nat) = i) (hi : la[i]? = some (some (.inr x))) (k : AW X b0 D g kc ks Q n M (pc + 1) la (.inr x :: st)) : AW X b0 D g kc ks Q n M pc la st := by
  intro hs hl hm H locs ls hW hS hL
  have e := hL.2.2 i _ hi
  have kk := k (fx_Sc (fx_La hl hi) hs) hl hm H locs ls hW hS hL
  rw [List.map_cons] at kk
  by_cases h0 : 0 ≤ x
  · rw [fx_cr h0] at e kk
    exact lv_aload_n (cx_x hC) (cx_b hC) hd hk e kk
  · rw [fx_cn (by omega)] at e kk
    exact lv_aload_nN (cx_x hC) (cx_b hC) hd hk e kk
theorem A_aload {i : Nat} {x : Int} (hC : CX X b0 D cc own nL ret l rk mcR msR) (hd : decode cc pc = .ok (.aload i, 2)) (hi : la[i]? = some (some (.inr x))) (k : AW X b0 D g kc ks Q n M (pc + 2) la (.inr x :: st)) : AW X b0 D g kc ks Q n M pc la st := by
  intro hs hl hm H locs ls hW hS hL
  have e := hL.2.2 i _ hi
  have kk := k (fx_Sc (fx_La hl hi) hs) hl hm H locs ls hW hS hL
  rw [List.map_cons] at kk
  by_cases h0 : 0 ≤ x
  · rw [fx_cr h0] at e kk
    exact lv_aload (cx_x hC) (cx_b hC) hd e kk
  · rw [fx_cn (by omega)] at e kk
    exact lv_aloadN (cx_x hC) (cx_b hC) hd e kk
theorem A_istore_n {i : Nat} {k4 : Fin 4} {x : Int} {la' : List (Option AV)} (hC : CX X b0 D cc own nL ret l rk mcR msR) (hd : decode cc pc = .ok (.istore_n k4, 1)) (hk : (k4 : Nat) = i) (hi : i < la.length) (hla : la.set i (some (.inl x)) = la') (k : AW X b0 D g kc ks Q n M (pc + 1) la' st) : AW X b0 D g kc ks Q n M pc la (.inl x :: st) := by
  intro hs hl hm H locs ls hW hS hL
  subst hla
  exact lv_istore_n (cx_x hC) (cx_b hC) hd hk (fx_L_has hL) hi rfl (fun ls' hl' => k (fx_St hs) (fx_Ls hl (fx_S1 hs)) hm H locs ls' hW hS (fx_L_set (v := .inl x) hi hl'))
theorem A_istore {i : Nat} {x : Int} {la' : List (Option AV)} (hC : CX X b0 D cc own nL ret l rk mcR msR) (hd : decode cc pc = .ok (.istore i, 2)) (hi : i < la.length) (hla : la.set i (some (.inl x)) = la') (k : AW X b0 D g kc ks Q n M (pc + 2) la' st) : AW X b0 D g kc ks Q n M pc la (.inl x :: st) := by
  intro hs hl hm H locs ls hW hS hL
  subst hla
  exact lv_istore (cx_x hC) (cx_b hC) hd (fx_L_has hL) hi rfl (fun ls' hl' => k (fx_St hs) (fx_Ls hl (fx_S1 hs)) hm H locs ls' hW hS (fx_L_set (v := .inl x) hi hl'))
theorem A_astore_n {i : Nat} {k4 : Fin 4} {x : Int} {la' : List (Option AV)} (hC : CX X b0 D cc own nL ret l rk mcR msR) (hd : decode cc pc = .ok (.astore_n k4, 1)) (hk : (k4 : Nat) = i) (hi : i < la.length) (hla : la.set i (some (.inr x)) = la') (k : AW X b0 D g kc ks Q n M (pc + 1) la' st) : AW X b0 D g kc ks Q n M pc la (.inr x :: st) := by
  intro hs hl hm H locs ls hW hS hL
  subst hla
  have kk : ∀ ls' : Array Slot, lv_has ls' la.length ((i, fx_co b0 (.inr x)) :: (fx_ll b0 0 la).filter (fun q => !(q.1 == i) && !(q.1 + 1 == i && q.2.category == 2))) → WX X H locs kc ks Q (F0 (xm X) (pc + 1) ls' (st.map (fx_co b0))) := fun ls' hl' => k (fx_St hs) (fx_Ls hl (fx_S1 hs)) hm H locs ls' hW hS (fx_L_set (v := .inr x) hi hl')
  rw [List.map_cons]
  by_cases h0 : 0 ≤ x
  · rw [fx_cr h0] at kk ⊢
    exact lv_astore_n (cx_x hC) (cx_b hC) hd hk (fx_L_has hL) hi rfl kk
  · rw [fx_cn (by omega)] at kk ⊢
    exact lv_astore_nN (cx_x hC) (cx_b hC) hd hk (fx_L_has hL) hi rfl kk
theorem A_astore {i : Nat} {x : Int} {la' : List (Option AV)} (hC : CX X b0 D cc own nL ret l rk mcR msR) (hd : decode cc pc = .ok (.astore i, 2)) (hi : i < la.length) (hla : la.set i (some (.inr x)) = la') (k : AW X b0 D g kc ks Q n M (pc + 2) la' st) : AW X b0 D g kc ks Q n M pc la (.inr x :: st) := by
  intro hs hl hm H locs ls hW hS hL
  subst hla
  have kk : ∀ ls' : Array Slot, lv_has ls' la.length ((i, fx_co b0 (.inr x)) :: (fx_ll b0 0 la).filter (fun q => !(q.1 == i) && !(q.1 + 1 == i && q.2.category == 2))) → WX X H locs kc ks Q (F0 (xm X) (pc + 2) ls' (st.map (fx_co b0))) := fun ls' hl' => k (fx_St hs) (fx_Ls hl (fx_S1 hs)) hm H locs ls' hW hS (fx_L_set (v := .inr x) hi hl')
  rw [List.map_cons]
  by_cases h0 : 0 ≤ x
  · rw [fx_cr h0] at kk ⊢
    exact lv_astore (cx_x hC) (cx_b hC) hd (fx_L_has hL) hi rfl kk
  · rw [fx_cn (by omega)] at kk ⊢
    exact lv_astoreN (cx_x hC) (cx_b hC) hd (fx_L_has hL) hi rfl kk
theorem A_ild0 {lt : List (Option AV)} {x : Int} (hC : CX X b0 D cc own nL ret l rk mcR msR) (hd : decode cc pc = .ok (.iload_n 0, 1)) (k : AW X b0 D g kc ks Q n M (pc + 1) (some (.inl x) :: lt) (.inl x :: st)) : AW X b0 D g kc ks Q n M pc (some (.inl x) :: lt) st := A_iload_n (i := 0) hC hd rfl rfl k
theorem A_ist0 {a0 : Option AV} {lt : List (Option AV)} {x : Int} (hC : CX X b0 D cc own nL ret l rk mcR msR) (hd : decode cc pc = .ok (.istore_n 0, 1)) (k : AW X b0 D g kc ks Q n M (pc + 1) (some (.inl x) :: lt) st) : AW X b0 D g kc ks Q n M pc (a0 :: lt) (.inl x :: st) := A_istore_n (i := 0) hC hd rfl (by simp only [List.length_cons]; omega) rfl k
theorem A_ald0 {lt : List (Option AV)} {x : Int} (hC : CX X b0 D cc own nL ret l rk mcR msR) (hd : decode cc pc = .ok (.aload_n 0, 1)) (k : AW X b0 D g kc ks Q n M (pc + 1) (some (.inr x) :: lt) (.inr x :: st)) : AW X b0 D g kc ks Q n M pc (some (.inr x) :: lt) st := A_aload_n (i := 0) hC hd rfl rfl k
theorem A_ast0 {a0 : Option AV} {lt : List (Option AV)} {x : Int} (hC : CX X b0 D cc own nL ret l rk mcR msR) (hd : decode cc pc = .ok (.astore_n 0, 1)) (k : AW X b0 D g kc ks Q n M (pc + 1) (some (.inr x) :: lt) st) : AW X b0 D g kc ks Q n M pc (a0 :: lt) (.inr x :: st) := A_astore_n (i := 0) hC hd rfl (by simp only [List.length_cons]; omega) rfl k
theorem A_iinc0 {lt : List (Option AV)} {x v : Int} (hC : CX X b0 D cc own nL ret l rk mcR msR) (hd : decode cc pc = .ok (.iinc 0 v, 3)) (hr : rg (x + v)) (k : AW X b0 D g kc ks Q n M (pc + 3) (some (.inl (x + v)) :: lt) st) : AW X b0 D g kc ks Q n M pc (some (.inl x) :: lt) st := by
  intro hs hl hm H locs ls hW hS hL
  obtain ⟨j, hj⟩ := List.getElem?_of_mem ((fx_ll_mem (b0 := b0) (some (.inl x) :: lt) 0 (0, fx_co b0 (.inl x))).mpr ⟨0, .inl x, rfl, rfl⟩)
  exact lv_iinc (k := j) (x := Int32.ofInt x) (v := Int32.ofInt (x + v)) (cx_x hC) (cx_b hC) hd (fx_L_has hL) hj (by rw [Int32.ofInt_add]) (by simp only [List.length_cons]; omega) rfl (fun ls' hl' => k hs (fx_Ls (i := 0) (v := .inl (x + v)) hl hr) hm H locs ls' hW hS (fx_L_set (i := 0) (v := .inl (x + v)) (by simp only [List.length_cons]; omega) hl'))
theorem A_ild1 {a0 : Option AV} {lt : List (Option AV)} {x : Int} (hC : CX X b0 D cc own nL ret l rk mcR msR) (hd : decode cc pc = .ok (.iload_n 1, 1)) (k : AW X b0 D g kc ks Q n M (pc + 1) (a0 :: some (.inl x) :: lt) (.inl x :: st)) : AW X b0 D g kc ks Q n M pc (a0 :: some (.inl x) :: lt) st := A_iload_n (i := 1) hC hd rfl rfl k
theorem A_ist1 {a0 a1 : Option AV} {lt : List (Option AV)} {x : Int} (hC : CX X b0 D cc own nL ret l rk mcR msR) (hd : decode cc pc = .ok (.istore_n 1, 1)) (k : AW X b0 D g kc ks Q n M (pc + 1) (a0 :: some (.inl x) :: lt) st) : AW X b0 D g kc ks Q n M pc (a0 :: a1 :: lt) (.inl x :: st) := A_istore_n (i := 1) hC hd rfl (by simp only [List.length_cons]; omega) rfl k
theorem A_ald1 {a0 : Option AV} {lt : List (Option AV)} {x : Int} (hC : CX X b0 D cc own nL ret l rk mcR msR) (hd : decode cc pc = .ok (.aload_n 1, 1)) (k : AW X b0 D g kc ks Q n M (pc + 1) (a0 :: some (.inr x) :: lt) (.inr x :: st)) : AW X b0 D g kc ks Q n M pc (a0 :: some (.inr x) :: lt) st := A_aload_n (i := 1) hC hd rfl rfl k
theorem A_ast1 {a0 a1 : Option AV} {lt : List (Option AV)} {x : Int} (hC : CX X b0 D cc own nL ret l rk mcR msR) (hd : decode cc pc = .ok (.astore_n 1, 1)) (k : AW X b0 D g kc ks Q n M (pc + 1) (a0 :: some (.inr x) :: lt) st) : AW X b0 D g kc ks Q n M pc (a0 :: a1 :: lt) (.inr x :: st) := A_astore_n (i := 1) hC hd rfl (by simp only [List.length_cons]; omega) rfl k
theorem A_iinc1 {a0 : Option AV} {lt : List (Option AV)} {x v : Int} (hC : CX X b0 D cc own nL ret l rk mcR msR) (hd : decode cc pc = .ok (.iinc 1 v, 3)) (hr : rg (x + v)) (k : AW X b0 D g kc ks Q n M (pc + 3) (a0 :: some (.inl (x + v)) :: lt) st) : AW X b0 D g kc ks Q n M pc (a0 :: some (.inl x) :: lt) st := by
  intro hs hl hm H locs ls hW hS hL
  obtain ⟨j, hj⟩ := List.getElem?_of_mem ((fx_ll_mem (b0 := b0) (a0 :: some (.inl x) :: lt) 0 (1, fx_co b0 (.inl x))).mpr ⟨1, .inl x, rfl, rfl⟩)
  exact lv_iinc (k := j) (x := Int32.ofInt x) (v := Int32.ofInt (x + v)) (cx_x hC) (cx_b hC) hd (fx_L_has hL) hj (by rw [Int32.ofInt_add]) (by simp only [List.length_cons]; omega) rfl (fun ls' hl' => k hs (fx_Ls (i := 1) (v := .inl (x + v)) hl hr) hm H locs ls' hW hS (fx_L_set (i := 1) (v := .inl (x + v)) (by simp only [List.length_cons]; omega) hl'))
theorem A_ild2 {a0 a1 : Option AV} {lt : List (Option AV)} {x : Int} (hC : CX X b0 D cc own nL ret l rk mcR msR) (hd : decode cc pc = .ok (.iload_n 2, 1)) (k : AW X b0 D g kc ks Q n M (pc + 1) (a0 :: a1 :: some (.inl x) :: lt) (.inl x :: st)) : AW X b0 D g kc ks Q n M pc (a0 :: a1 :: some (.inl x) :: lt) st := A_iload_n (i := 2) hC hd rfl rfl k
theorem A_ist2 {a0 a1 a2 : Option AV} {lt : List (Option AV)} {x : Int} (hC : CX X b0 D cc own nL ret l rk mcR msR) (hd : decode cc pc = .ok (.istore_n 2, 1)) (k : AW X b0 D g kc ks Q n M (pc + 1) (a0 :: a1 :: some (.inl x) :: lt) st) : AW X b0 D g kc ks Q n M pc (a0 :: a1 :: a2 :: lt) (.inl x :: st) := A_istore_n (i := 2) hC hd rfl (by simp only [List.length_cons]; omega) rfl k
theorem A_ald2 {a0 a1 : Option AV} {lt : List (Option AV)} {x : Int} (hC : CX X b0 D cc own nL ret l rk mcR msR) (hd : decode cc pc = .ok (.aload_n 2, 1)) (k : AW X b0 D g kc ks Q n M (pc + 1) (a0 :: a1 :: some (.inr x) :: lt) (.inr x :: st)) : AW X b0 D g kc ks Q n M pc (a0 :: a1 :: some (.inr x) :: lt) st := A_aload_n (i := 2) hC hd rfl rfl k
theorem A_ast2 {a0 a1 a2 : Option AV} {lt : List (Option AV)} {x : Int} (hC : CX X b0 D cc own nL ret l rk mcR msR) (hd : decode cc pc = .ok (.astore_n 2, 1)) (k : AW X b0 D g kc ks Q n M (pc + 1) (a0 :: a1 :: some (.inr x) :: lt) st) : AW X b0 D g kc ks Q n M pc (a0 :: a1 :: a2 :: lt) (.inr x :: st) := A_astore_n (i := 2) hC hd rfl (by simp only [List.length_cons]; omega) rfl k
theorem A_iinc2 {a0 a1 : Option AV} {lt : List (Option AV)} {x v : Int} (hC : CX X b0 D cc own nL ret l rk mcR msR) (hd : decode cc pc = .ok (.iinc 2 v, 3)) (hr : rg (x + v)) (k : AW X b0 D g kc ks Q n M (pc + 3) (a0 :: a1 :: some (.inl (x + v)) :: lt) st) : AW X b0 D g kc ks Q n M pc (a0 :: a1 :: some (.inl x) :: lt) st := by
  intro hs hl hm H locs ls hW hS hL
  obtain ⟨j, hj⟩ := List.getElem?_of_mem ((fx_ll_mem (b0 := b0) (a0 :: a1 :: some (.inl x) :: lt) 0 (2, fx_co b0 (.inl x))).mpr ⟨2, .inl x, rfl, rfl⟩)
  exact lv_iinc (k := j) (x := Int32.ofInt x) (v := Int32.ofInt (x + v)) (cx_x hC) (cx_b hC) hd (fx_L_has hL) hj (by rw [Int32.ofInt_add]) (by simp only [List.length_cons]; omega) rfl (fun ls' hl' => k hs (fx_Ls (i := 2) (v := .inl (x + v)) hl hr) hm H locs ls' hW hS (fx_L_set (i := 2) (v := .inl (x + v)) (by simp only [List.length_cons]; omega) hl'))
theorem A_ild3 {a0 a1 a2 : Option AV} {lt : List (Option AV)} {x : Int} (hC : CX X b0 D cc own nL ret l rk mcR msR) (hd : decode cc pc = .ok (.iload_n 3, 1)) (k : AW X b0 D g kc ks Q n M (pc + 1) (a0 :: a1 :: a2 :: some (.inl x) :: lt) (.inl x :: st)) : AW X b0 D g kc ks Q n M pc (a0 :: a1 :: a2 :: some (.inl x) :: lt) st := A_iload_n (i := 3) hC hd rfl rfl k
theorem A_ist3 {a0 a1 a2 a3 : Option AV} {lt : List (Option AV)} {x : Int} (hC : CX X b0 D cc own nL ret l rk mcR msR) (hd : decode cc pc = .ok (.istore_n 3, 1)) (k : AW X b0 D g kc ks Q n M (pc + 1) (a0 :: a1 :: a2 :: some (.inl x) :: lt) st) : AW X b0 D g kc ks Q n M pc (a0 :: a1 :: a2 :: a3 :: lt) (.inl x :: st) := A_istore_n (i := 3) hC hd rfl (by simp only [List.length_cons]; omega) rfl k
theorem A_ald3 {a0 a1 a2 : Option AV} {lt : List (Option AV)} {x : Int} (hC : CX X b0 D cc own nL ret l rk mcR msR) (hd : decode cc pc = .ok (.aload_n 3, 1)) (k : AW X b0 D g kc ks Q n M (pc + 1) (a0 :: a1 :: a2 :: some (.inr x) :: lt) (.inr x :: st)) : AW X b0 D g kc ks Q n M pc (a0 :: a1 :: a2 :: some (.inr x) :: lt) st := A_aload_n (i := 3) hC hd rfl rfl k
theorem A_ast3 {a0 a1 a2 a3 : Option AV} {lt : List (Option AV)} {x : Int} (hC : CX X b0 D cc own nL ret l rk mcR msR) (hd : decode cc pc = .ok (.astore_n 3, 1)) (k : AW X b0 D g kc ks Q n M (pc + 1) (a0 :: a1 :: a2 :: some (.inr x) :: lt) st) : AW X b0 D g kc ks Q n M pc (a0 :: a1 :: a2 :: a3 :: lt) (.inr x :: st) := A_astore_n (i := 3) hC hd rfl (by simp only [List.length_cons]; omega) rfl k
theorem A_iinc3 {a0 a1 a2 : Option AV} {lt : List (Option AV)} {x v : Int} (hC : CX X b0 D cc own nL ret l rk mcR msR) (hd : decode cc pc = .ok (.iinc 3 v, 3)) (hr : rg (x + v)) (k : AW X b0 D g kc ks Q n M (pc + 3) (a0 :: a1 :: a2 :: some (.inl (x + v)) :: lt) st) : AW X b0 D g kc ks Q n M pc (a0 :: a1 :: a2 :: some (.inl x) :: lt) st := by
  intro hs hl hm H locs ls hW hS hL
  obtain ⟨j, hj⟩ := List.getElem?_of_mem ((fx_ll_mem (b0 := b0) (a0 :: a1 :: a2 :: some (.inl x) :: lt) 0 (3, fx_co b0 (.inl x))).mpr ⟨3, .inl x, rfl, rfl⟩)
  exact lv_iinc (k := j) (x := Int32.ofInt x) (v := Int32.ofInt (x + v)) (cx_x hC) (cx_b hC) hd (fx_L_has hL) hj (by rw [Int32.ofInt_add]) (by simp only [List.length_cons]; omega) rfl (fun ls' hl' => k hs (fx_Ls (i := 3) (v := .inl (x + v)) hl hr) hm H locs ls' hW hS (fx_L_set (i := 3) (v := .inl (x + v)) (by simp only [List.length_cons]; omega) hl'))
theorem A_ild4 {a0 a1 a2 a3 : Option AV} {lt : List (Option AV)} {x : Int} (hC : CX X b0 D cc own nL ret l rk mcR msR) (hd : decode cc pc = .ok (.iload 4, 2)) (k : AW X b0 D g kc ks Q n M (pc + 2) (a0 :: a1 :: a2 :: a3 :: some (.inl x) :: lt) (.inl x :: st)) : AW X b0 D g kc ks Q n M pc (a0 :: a1 :: a2 :: a3 :: some (.inl x) :: lt) st := A_iload (i := 4) hC hd rfl k
theorem A_ist4 {a0 a1 a2 a3 a4 : Option AV} {lt : List (Option AV)} {x : Int} (hC : CX X b0 D cc own nL ret l rk mcR msR) (hd : decode cc pc = .ok (.istore 4, 2)) (k : AW X b0 D g kc ks Q n M (pc + 2) (a0 :: a1 :: a2 :: a3 :: some (.inl x) :: lt) st) : AW X b0 D g kc ks Q n M pc (a0 :: a1 :: a2 :: a3 :: a4 :: lt) (.inl x :: st) := A_istore (i := 4) hC hd (by simp only [List.length_cons]; omega) rfl k
theorem A_ald4 {a0 a1 a2 a3 : Option AV} {lt : List (Option AV)} {x : Int} (hC : CX X b0 D cc own nL ret l rk mcR msR) (hd : decode cc pc = .ok (.aload 4, 2)) (k : AW X b0 D g kc ks Q n M (pc + 2) (a0 :: a1 :: a2 :: a3 :: some (.inr x) :: lt) (.inr x :: st)) : AW X b0 D g kc ks Q n M pc (a0 :: a1 :: a2 :: a3 :: some (.inr x) :: lt) st := A_aload (i := 4) hC hd rfl k
theorem A_ast4 {a0 a1 a2 a3 a4 : Option AV} {lt : List (Option AV)} {x : Int} (hC : CX X b0 D cc own nL ret l rk mcR msR) (hd : decode cc pc = .ok (.astore 4, 2)) (k : AW X b0 D g kc ks Q n M (pc + 2) (a0 :: a1 :: a2 :: a3 :: some (.inr x) :: lt) st) : AW X b0 D g kc ks Q n M pc (a0 :: a1 :: a2 :: a3 :: a4 :: lt) (.inr x :: st) := A_astore (i := 4) hC hd (by simp only [List.length_cons]; omega) rfl k
theorem A_iinc4 {a0 a1 a2 a3 : Option AV} {lt : List (Option AV)} {x v : Int} (hC : CX X b0 D cc own nL ret l rk mcR msR) (hd : decode cc pc = .ok (.iinc 4 v, 3)) (hr : rg (x + v)) (k : AW X b0 D g kc ks Q n M (pc + 3) (a0 :: a1 :: a2 :: a3 :: some (.inl (x + v)) :: lt) st) : AW X b0 D g kc ks Q n M pc (a0 :: a1 :: a2 :: a3 :: some (.inl x) :: lt) st := by
  intro hs hl hm H locs ls hW hS hL
  obtain ⟨j, hj⟩ := List.getElem?_of_mem ((fx_ll_mem (b0 := b0) (a0 :: a1 :: a2 :: a3 :: some (.inl x) :: lt) 0 (4, fx_co b0 (.inl x))).mpr ⟨4, .inl x, rfl, rfl⟩)
  exact lv_iinc (k := j) (x := Int32.ofInt x) (v := Int32.ofInt (x + v)) (cx_x hC) (cx_b hC) hd (fx_L_has hL) hj (by rw [Int32.ofInt_add]) (by simp only [List.length_cons]; omega) rfl (fun ls' hl' => k hs (fx_Ls (i := 4) (v := .inl (x + v)) hl hr) hm H locs ls' hW hS (fx_L_set (i := 4) (v := .inl (x + v)) (by simp only [List.length_cons]; omega) hl'))
theorem A_ild5 {a0 a1 a2 a3 a4 : Option AV} {lt : List (Option AV)} {x : Int} (hC : CX X b0 D cc own nL ret l rk mcR msR) (hd : decode cc pc = .ok (.iload 5, 2)) (k : AW X b0 D g kc ks Q n M (pc + 2) (a0 :: a1 :: a2 :: a3 :: a4 :: some (.inl x) :: lt) (.inl x :: st)) : AW X b0 D g kc ks Q n M pc (a0 :: a1 :: a2 :: a3 :: a4 :: some (.inl x) :: lt) st := A_iload (i := 5) hC hd rfl k
theorem A_ist5 {a0 a1 a2 a3 a4 a5 : Option AV} {lt : List (Option AV)} {x : Int} (hC : CX X b0 D cc own nL ret l rk mcR msR) (hd : decode cc pc = .ok (.istore 5, 2)) (k : AW X b0 D g kc ks Q n M (pc + 2) (a0 :: a1 :: a2 :: a3 :: a4 :: some (.inl x) :: lt) st) : AW X b0 D g kc ks Q n M pc (a0 :: a1 :: a2 :: a3 :: a4 :: a5 :: lt) (.inl x :: st) := A_istore (i := 5) hC hd (by simp only [List.length_cons]; omega) rfl k
theorem A_ald5 {a0 a1 a2 a3 a4 : Option AV} {lt : List (Option AV)} {x : Int} (hC : CX X b0 D cc own nL ret l rk mcR msR) (hd : decode cc pc = .ok (.aload 5, 2)) (k : AW X b0 D g kc ks Q n M (pc + 2) (a0 :: a1 :: a2 :: a3 :: a4 :: some (.inr x) :: lt) (.inr x :: st)) : AW X b0 D g kc ks Q n M pc (a0 :: a1 :: a2 :: a3 :: a4 :: some (.inr x) :: lt) st := A_aload (i := 5) hC hd rfl k
theorem A_ast5 {a0 a1 a2 a3 a4 a5 : Option AV} {lt : List (Option AV)} {x : Int} (hC : CX X b0 D cc own nL ret l rk mcR msR) (hd : decode cc pc = .ok (.astore 5, 2)) (k : AW X b0 D g kc ks Q n M (pc + 2) (a0 :: a1 :: a2 :: a3 :: a4 :: some (.inr x) :: lt) st) : AW X b0 D g kc ks Q n M pc (a0 :: a1 :: a2 :: a3 :: a4 :: a5 :: lt) (.inr x :: st) := A_astore (i := 5) hC hd (by simp only [List.length_cons]; omega) rfl k
theorem A_iinc5 {a0 a1 a2 a3 a4 : Option AV} {lt : List (Option AV)} {x v : Int} (hC : CX X b0 D cc own nL ret l rk mcR msR) (hd : decode cc pc = .ok (.iinc 5 v, 3)) (hr : rg (x + v)) (k : AW X b0 D g kc ks Q n M (pc + 3) (a0 :: a1 :: a2 :: a3 :: a4 :: some (.inl (x + v)) :: lt) st) : AW X b0 D g kc ks Q n M pc (a0 :: a1 :: a2 :: a3 :: a4 :: some (.inl x) :: lt) st := by
  intro hs hl hm H locs ls hW hS hL
  obtain ⟨j, hj⟩ := List.getElem?_of_mem ((fx_ll_mem (b0 := b0) (a0 :: a1 :: a2 :: a3 :: a4 :: some (.inl x) :: lt) 0 (5, fx_co b0 (.inl x))).mpr ⟨5, .inl x, rfl, rfl⟩)
  exact lv_iinc (k := j) (x := Int32.ofInt x) (v := Int32.ofInt (x + v)) (cx_x hC) (cx_b hC) hd (fx_L_has hL) hj (by rw [Int32.ofInt_add]) (by simp only [List.length_cons]; omega) rfl (fun ls' hl' => k hs (fx_Ls (i := 5) (v := .inl (x + v)) hl hr) hm H locs ls' hW hS (fx_L_set (i := 5) (v := .inl (x + v)) (by simp only [List.length_cons]; omega) hl'))
theorem A_ild6 {a0 a1 a2 a3 a4 a5 : Option AV} {lt : List (Option AV)} {x : Int} (hC : CX X b0 D cc own nL ret l rk mcR msR) (hd : decode cc pc = .ok (.iload 6, 2)) (k : AW X b0 D g kc ks Q n M (pc + 2) (a0 :: a1 :: a2 :: a3 :: a4 :: a5 :: some (.inl x) :: lt) (.inl x :: st)) : AW X b0 D g kc ks Q n M pc (a0 :: a1 :: a2 :: a3 :: a4 :: a5 :: some (.inl x) :: lt) st := A_iload (i := 6) hC hd rfl k
theorem A_ist6 {a0 a1 a2 a3 a4 a5 a6 : Option AV} {lt : List (Option AV)} {x : Int} (hC : CX X b0 D cc own nL ret l rk mcR msR) (hd : decode cc pc = .ok (.istore 6, 2)) (k : AW X b0 D g kc ks Q n M (pc + 2) (a0 :: a1 :: a2 :: a3 :: a4 :: a5 :: some (.inl x) :: lt) st) : AW X b0 D g kc ks Q n M pc (a0 :: a1 :: a2 :: a3 :: a4 :: a5 :: a6 :: lt) (.inl x :: st) := A_istore (i := 6) hC hd (by simp only [List.length_cons]; omega) rfl k
theorem A_ald6 {a0 a1 a2 a3 a4 a5 : Option AV} {lt : List (Option AV)} {x : Int} (hC : CX X b0 D cc own nL ret l rk mcR msR) (hd : decode cc pc = .ok (.aload 6, 2)) (k : AW X b0 D g kc ks Q n M (pc + 2) (a0 :: a1 :: a2 :: a3 :: a4 :: a5 :: some (.inr x) :: lt) (.inr x :: st)) : AW X b0 D g kc ks Q n M pc (a0 :: a1 :: a2 :: a3 :: a4 :: a5 :: some (.inr x) :: lt) st := A_aload (i := 6) hC hd rfl k
theorem A_ast6 {a0 a1 a2 a3 a4 a5 a6 : Option AV} {lt : List (Option AV)} {x : Int} (hC : CX X b0 D cc own nL ret l rk mcR msR) (hd : decode cc pc = .ok (.astore 6, 2)) (k : AW X b0 D g kc ks Q n M (pc + 2) (a0 :: a1 :: a2 :: a3 :: a4 :: a5 :: some (.inr x) :: lt) st) : AW X b0 D g kc ks Q n M pc (a0 :: a1 :: a2 :: a3 :: a4 :: a5 :: a6 :: lt) (.inr x :: st) := A_astore (i := 6) hC hd (by simp only [List.length_cons]; omega) rfl k
theorem A_iinc6 {a0 a1 a2 a3 a4 a5 : Option AV} {lt : List (Option AV)} {x v : Int} (hC : CX X b0 D cc own nL ret l rk mcR msR) (hd : decode cc pc = .ok (.iinc 6 v, 3)) (hr : rg (x + v)) (k : AW X b0 D g kc ks Q n M (pc + 3) (a0 :: a1 :: a2 :: a3 :: a4 :: a5 :: some (.inl (x + v)) :: lt) st) : AW X b0 D g kc ks Q n M pc (a0 :: a1 :: a2 :: a3 :: a4 :: a5 :: some (.inl x) :: lt) st := by
  intro hs hl hm H locs ls hW hS hL
  obtain ⟨j, hj⟩ := List.getElem?_of_mem ((fx_ll_mem (b0 := b0) (a0 :: a1 :: a2 :: a3 :: a4 :: a5 :: some (.inl x) :: lt) 0 (6, fx_co b0 (.inl x))).mpr ⟨6, .inl x, rfl, rfl⟩)
  exact lv_iinc (k := j) (x := Int32.ofInt x) (v := Int32.ofInt (x + v)) (cx_x hC) (cx_b hC) hd (fx_L_has hL) hj (by rw [Int32.ofInt_add]) (by simp only [List.length_cons]; omega) rfl (fun ls' hl' => k hs (fx_Ls (i := 6) (v := .inl (x + v)) hl hr) hm H locs ls' hW hS (fx_L_set (i := 6) (v := .inl (x + v)) (by simp only [List.length_cons]; omega) hl'))
theorem A_ild7 {a0 a1 a2 a3 a4 a5 a6 : Option AV} {lt : List (Option AV)} {x : Int} (hC : CX X b0 D cc own nL ret l rk mcR msR) (hd : decode cc pc = .ok (.iload 7, 2)) (k : AW X b0 D g kc ks Q n M (pc + 2) (a0 :: a1 :: a2 :: a3 :: a4 :: a5 :: a6 :: some (.inl x) :: lt) (.inl x :: st)) : AW X b0 D g kc ks Q n M pc (a0 :: a1 :: a2 :: a3 :: a4 :: a5 :: a6 :: some (.inl x) :: lt) st := A_iload (i := 7) hC hd rfl k
theorem A_ist7 {a0 a1 a2 a3 a4 a5 a6 a7 : Option AV} {lt : List (Option AV)} {x : Int} (hC : CX X b0 D cc own nL ret l rk mcR msR) (hd : decode cc pc = .ok (.istore 7, 2)) (k : AW X b0 D g kc ks Q n M (pc + 2) (a0 :: a1 :: a2 :: a3 :: a4 :: a5 :: a6 :: some (.inl x) :: lt) st) : AW X b0 D g kc ks Q n M pc (a0 :: a1 :: a2 :: a3 :: a4 :: a5 :: a6 :: a7 :: lt) (.inl x :: st) := A_istore (i := 7) hC hd (by simp only [List.length_cons]; omega) rfl k
theorem A_ald7 {a0 a1 a2 a3 a4 a5 a6 : Option AV} {lt : List (Option AV)} {x : Int} (hC : CX X b0 D cc own nL ret l rk mcR msR) (hd : decode cc pc = .ok (.aload 7, 2)) (k : AW X b0 D g kc ks Q n M (pc + 2) (a0 :: a1 :: a2 :: a3 :: a4 :: a5 :: a6 :: some (.inr x) :: lt) (.inr x :: st)) : AW X b0 D g kc ks Q n M pc (a0 :: a1 :: a2 :: a3 :: a4 :: a5 :: a6 :: some (.inr x) :: lt) st := A_aload (i := 7) hC hd rfl k
theorem A_ast7 {a0 a1 a2 a3 a4 a5 a6 a7 : Option AV} {lt : List (Option AV)} {x : Int} (hC : CX X b0 D cc own nL ret l rk mcR msR) (hd : decode cc pc = .ok (.astore 7, 2)) (k : AW X b0 D g kc ks Q n M (pc + 2) (a0 :: a1 :: a2 :: a3 :: a4 :: a5 :: a6 :: some (.inr x) :: lt) st) : AW X b0 D g kc ks Q n M pc (a0 :: a1 :: a2 :: a3 :: a4 :: a5 :: a6 :: a7 :: lt) (.inr x :: st) := A_astore (i := 7) hC hd (by simp only [List.length_cons]; omega) rfl k
theorem A_iinc7 {a0 a1 a2 a3 a4 a5 a6 : Option AV} {lt : List (Option AV)} {x v : Int} (hC : CX X b0 D cc own nL ret l rk mcR msR) (hd : decode cc pc = .ok (.iinc 7 v, 3)) (hr : rg (x + v)) (k : AW X b0 D g kc ks Q n M (pc + 3) (a0 :: a1 :: a2 :: a3 :: a4 :: a5 :: a6 :: some (.inl (x + v)) :: lt) st) : AW X b0 D g kc ks Q n M pc (a0 :: a1 :: a2 :: a3 :: a4 :: a5 :: a6 :: some (.inl x) :: lt) st := by
  intro hs hl hm H locs ls hW hS hL
  obtain ⟨j, hj⟩ := List.getElem?_of_mem ((fx_ll_mem (b0 := b0) (a0 :: a1 :: a2 :: a3 :: a4 :: a5 :: a6 :: some (.inl x) :: lt) 0 (7, fx_co b0 (.inl x))).mpr ⟨7, .inl x, rfl, rfl⟩)
  exact lv_iinc (k := j) (x := Int32.ofInt x) (v := Int32.ofInt (x + v)) (cx_x hC) (cx_b hC) hd (fx_L_has hL) hj (by rw [Int32.ofInt_add]) (by simp only [List.length_cons]; omega) rfl (fun ls' hl' => k hs (fx_Ls (i := 7) (v := .inl (x + v)) hl hr) hm H locs ls' hW hS (fx_L_set (i := 7) (v := .inl (x + v)) (by simp only [List.length_cons]; omega) hl'))
theorem A_ild8 {a0 a1 a2 a3 a4 a5 a6 a7 : Option AV} {lt : List (Option AV)} {x : Int} (hC : CX X b0 D cc own nL ret l rk mcR msR) (hd : decode cc pc = .ok (.iload 8, 2)) (k : AW X b0 D g kc ks Q n M (pc + 2) (a0 :: a1 :: a2 :: a3 :: a4 :: a5 :: a6 :: a7 :: some (.inl x) :: lt) (.inl x :: st)) : AW X b0 D g kc ks Q n M pc (a0 :: a1 :: a2 :: a3 :: a4 :: a5 :: a6 :: a7 :: some (.inl x) :: lt) st := A_iload (i := 8) hC hd rfl k
theorem A_ist8 {a0 a1 a2 a3 a4 a5 a6 a7 a8 : Option AV} {lt : List (Option AV)} {x : Int} (hC : CX X b0 D cc own nL ret l rk mcR msR) (hd : decode cc pc = .ok (.istore 8, 2)) (k : AW X b0 D g kc ks Q n M (pc + 2) (a0 :: a1 :: a2 :: a3 :: a4 :: a5 :: a6 :: a7 :: some (.inl x) :: lt) st) : AW X b0 D g kc ks Q n M pc (a0 :: a1 :: a2 :: a3 :: a4 :: a5 :: a6 :: a7 :: a8 :: lt) (.inl x :: st) := A_istore (i := 8) hC hd (by simp only [List.length_cons]; omega) rfl k
theorem A_ald8 {a0 a1 a2 a3 a4 a5 a6 a7 : Option AV} {lt : List (Option AV)} {x : Int} (hC : CX X b0 D cc own nL ret l rk mcR msR) (hd : decode cc pc = .ok (.aload 8, 2)) (k : AW X b0 D g kc ks Q n M (pc + 2) (a0 :: a1 :: a2 :: a3 :: a4 :: a5 :: a6 :: a7 :: some (.inr x) :: lt) (.inr x :: st)) : AW X b0 D g kc ks Q n M pc (a0 :: a1 :: a2 :: a3 :: a4 :: a5 :: a6 :: a7 :: some (.inr x) :: lt) st := A_aload (i := 8) hC hd rfl k
theorem A_ast8 {a0 a1 a2 a3 a4 a5 a6 a7 a8 : Option AV} {lt : List (Option AV)} {x : Int} (hC : CX X b0 D cc own nL ret l rk mcR msR) (hd : decode cc pc = .ok (.astore 8, 2)) (k : AW X b0 D g kc ks Q n M (pc + 2) (a0 :: a1 :: a2 :: a3 :: a4 :: a5 :: a6 :: a7 :: some (.inr x) :: lt) st) : AW X b0 D g kc ks Q n M pc (a0 :: a1 :: a2 :: a3 :: a4 :: a5 :: a6 :: a7 :: a8 :: lt) (.inr x :: st) := A_astore (i := 8) hC hd (by simp only [List.length_cons]; omega) rfl k
theorem A_iinc8 {a0 a1 a2 a3 a4 a5 a6 a7 : Option AV} {lt : List (Option AV)} {x v : Int} (hC : CX X b0 D cc own nL ret l rk mcR msR) (hd : decode cc pc = .ok (.iinc 8 v, 3)) (hr : rg (x + v)) (k : AW X b0 D g kc ks Q n M (pc + 3) (a0 :: a1 :: a2 :: a3 :: a4 :: a5 :: a6 :: a7 :: some (.inl (x + v)) :: lt) st) : AW X b0 D g kc ks Q n M pc (a0 :: a1 :: a2 :: a3 :: a4 :: a5 :: a6 :: a7 :: some (.inl x) :: lt) st := by
  intro hs hl hm H locs ls hW hS hL
  obtain ⟨j, hj⟩ := List.getElem?_of_mem ((fx_ll_mem (b0 := b0) (a0 :: a1 :: a2 :: a3 :: a4 :: a5 :: a6 :: a7 :: some (.inl x) :: lt) 0 (8, fx_co b0 (.inl x))).mpr ⟨8, .inl x, rfl, rfl⟩)
  exact lv_iinc (k := j) (x := Int32.ofInt x) (v := Int32.ofInt (x + v)) (cx_x hC) (cx_b hC) hd (fx_L_has hL) hj (by rw [Int32.ofInt_add]) (by simp only [List.length_cons]; omega) rfl (fun ls' hl' => k hs (fx_Ls (i := 8) (v := .inl (x + v)) hl hr) hm H locs ls' hW hS (fx_L_set (i := 8) (v := .inl (x + v)) (by simp only [List.length_cons]; omega) hl'))
theorem A_ild9 {a0 a1 a2 a3 a4 a5 a6 a7 a8 : Option AV} {lt : List (Option AV)} {x : Int} (hC : CX X b0 D cc own nL ret l rk mcR msR) (hd : decode cc pc = .ok (.iload 9, 2)) (k : AW X b0 D g kc ks Q n M (pc + 2) (a0 :: a1 :: a2 :: a3 :: a4 :: a5 :: a6 :: a7 :: a8 :: some (.inl x) :: lt) (.inl x :: st)) : AW X b0 D g kc ks Q n M pc (a0 :: a1 :: a2 :: a3 :: a4 :: a5 :: a6 :: a7 :: a8 :: some (.inl x) :: lt) st := A_iload (i := 9) hC hd rfl k
theorem A_ist9 {a0 a1 a2 a3 a4 a5 a6 a7 a8 a9 : Option AV} {lt : List (Option AV)} {x : Int} (hC : CX X b0 D cc own nL ret l rk mcR msR) (hd : decode cc pc = .ok (.istore 9, 2)) (k : AW X b0 D g kc ks Q n M (pc + 2) (a0 :: a1 :: a2 :: a3 :: a4 :: a5 :: a6 :: a7 :: a8 :: some (.inl x) :: lt) st) : AW X b0 D g kc ks Q n M pc (a0 :: a1 :: a2 :: a3 :: a4 :: a5 :: a6 :: a7 :: a8 :: a9 :: lt) (.inl x :: st) := A_istore (i := 9) hC hd (by simp only [List.length_cons]; omega) rfl k
theorem A_ald9 {a0 a1 a2 a3 a4 a5 a6 a7 a8 : Option AV} {lt : List (Option AV)} {x : Int} (hC : CX X b0 D cc own nL ret l rk mcR msR) (hd : decode cc pc = .ok (.aload 9, 2)) (k : AW X b0 D g kc ks Q n M (pc + 2) (a0 :: a1 :: a2 :: a3 :: a4 :: a5 :: a6 :: a7 :: a8 :: some (.inr x) :: lt) (.inr x :: st)) : AW X b0 D g kc ks Q n M pc (a0 :: a1 :: a2 :: a3 :: a4 :: a5 :: a6 :: a7 :: a8 :: some (.inr x) :: lt) st := A_aload (i := 9) hC hd rfl k
theorem A_ast9 {a0 a1 a2 a3 a4 a5 a6 a7 a8 a9 : Option AV} {lt : List (Option AV)} {x : Int} (hC : CX X b0 D cc own nL ret l rk mcR msR) (hd : decode cc pc = .ok (.astore 9, 2)) (k : AW X b0 D g kc ks Q n M (pc + 2) (a0 :: a1 :: a2 :: a3 :: a4 :: a5 :: a6 :: a7 :: a8 :: some (.inr x) :: lt) st) : AW X b0 D g kc ks Q n M pc (a0 :: a1 :: a2 :: a3 :: a4 :: a5 :: a6 :: a7 :: a8 :: a9 :: lt) (.inr x :: st) := A_astore (i := 9) hC hd (by simp only [List.length_cons]; omega) rfl k
theorem A_iinc9 {a0 a1 a2 a3 a4 a5 a6 a7 a8 : Option AV} {lt : List (Option AV)} {x v : Int} (hC : CX X b0 D cc own nL ret l rk mcR msR) (hd : decode cc pc = .ok (.iinc 9 v, 3)) (hr : rg (x + v)) (k : AW X b0 D g kc ks Q n M (pc + 3) (a0 :: a1 :: a2 :: a3 :: a4 :: a5 :: a6 :: a7 :: a8 :: some (.inl (x + v)) :: lt) st) : AW X b0 D g kc ks Q n M pc (a0 :: a1 :: a2 :: a3 :: a4 :: a5 :: a6 :: a7 :: a8 :: some (.inl x) :: lt) st := by
  intro hs hl hm H locs ls hW hS hL
  obtain ⟨j, hj⟩ := List.getElem?_of_mem ((fx_ll_mem (b0 := b0) (a0 :: a1 :: a2 :: a3 :: a4 :: a5 :: a6 :: a7 :: a8 :: some (.inl x) :: lt) 0 (9, fx_co b0 (.inl x))).mpr ⟨9, .inl x, rfl, rfl⟩)
  exact lv_iinc (k := j) (x := Int32.ofInt x) (v := Int32.ofInt (x + v)) (cx_x hC) (cx_b hC) hd (fx_L_has hL) hj (by rw [Int32.ofInt_add]) (by simp only [List.length_cons]; omega) rfl (fun ls' hl' => k hs (fx_Ls (i := 9) (v := .inl (x + v)) hl hr) hm H locs ls' hW hS (fx_L_set (i := 9) (v := .inl (x + v)) (by simp only [List.length_cons]; omega) hl'))
theorem A_ild10 {a0 a1 a2 a3 a4 a5 a6 a7 a8 a9 : Option AV} {lt : List (Option AV)} {x : Int} (hC : CX X b0 D cc own nL ret l rk mcR msR) (hd : decode cc pc = .ok (.iload 10, 2)) (k : AW X b0 D g kc ks Q n M (pc + 2) (a0 :: a1 :: a2 :: a3 :: a4 :: a5 :: a6 :: a7 :: a8 :: a9 :: some (.inl x) :: lt) (.inl x :: st)) : AW X b0 D g kc ks Q n M pc (a0 :: a1 :: a2 :: a3 :: a4 :: a5 :: a6 :: a7 :: a8 :: a9 :: some (.inl x) :: lt) st := A_iload (i := 10) hC hd rfl k
theorem A_ist10 {a0 a1 a2 a3 a4 a5 a6 a7 a8 a9 a10 : Option AV} {lt : List (Option AV)} {x : Int} (hC : CX X b0 D cc own nL ret l rk mcR msR) (hd : decode cc pc = .ok (.istore 10, 2)) (k : AW X b0 D g kc ks Q n M (pc + 2) (a0 :: a1 :: a2 :: a3 :: a4 :: a5 :: a6 :: a7 :: a8 :: a9 :: some (.inl x) :: lt) st) : AW X b0 D g kc ks Q n M pc (a0 :: a1 :: a2 :: a3 :: a4 :: a5 :: a6 :: a7 :: a8 :: a9 :: a10 :: lt) (.inl x :: st) := A_istore (i := 10) hC hd (by simp only [List.length_cons]; omega) rfl k
theorem A_ald10 {a0 a1 a2 a3 a4 a5 a6 a7 a8 a9 : Option AV} {lt : List (Option AV)} {x : Int} (hC : CX X b0 D cc own nL ret l rk mcR msR) (hd : decode cc pc = .ok (.aload 10, 2)) (k : AW X b0 D g kc ks Q n M (pc + 2) (a0 :: a1 :: a2 :: a3 :: a4 :: a5 :: a6 :: a7 :: a8 :: a9 :: some (.inr x) :: lt) (.inr x :: st)) : AW X b0 D g kc ks Q n M pc (a0 :: a1 :: a2 :: a3 :: a4 :: a5 :: a6 :: a7 :: a8 :: a9 :: some (.inr x) :: lt) st := A_aload (i := 10) hC hd rfl k
theorem A_ast10 {a0 a1 a2 a3 a4 a5 a6 a7 a8 a9 a10 : Option AV} {lt : List (Option AV)} {x : Int} (hC : CX X b0 D cc own nL ret l rk mcR msR) (hd : decode cc pc = .ok (.astore 10, 2)) (k : AW X b0 D g kc ks Q n M (pc + 2) (a0 :: a1 :: a2 :: a3 :: a4 :: a5 :: a6 :: a7 :: a8 :: a9 :: some (.inr x) :: lt) st) : AW X b0 D g kc ks Q n M pc (a0 :: a1 :: a2 :: a3 :: a4 :: a5 :: a6 :: a7 :: a8 :: a9 :: a10 :: lt) (.inr x :: st) := A_astore (i := 10) hC hd (by simp only [List.length_cons]; omega) rfl k
theorem A_iinc10 {a0 a1 a2 a3 a4 a5 a6 a7 a8 a9 : Option AV} {lt : List (Option AV)} {x v : Int} (hC : CX X b0 D cc own nL ret l rk mcR msR) (hd : decode cc pc = .ok (.iinc 10 v, 3)) (hr : rg (x + v)) (k : AW X b0 D g kc ks Q n M (pc + 3) (a0 :: a1 :: a2 :: a3 :: a4 :: a5 :: a6 :: a7 :: a8 :: a9 :: some (.inl (x + v)) :: lt) st) : AW X b0 D g kc ks Q n M pc (a0 :: a1 :: a2 :: a3 :: a4 :: a5 :: a6 :: a7 :: a8 :: a9 :: some (.inl x) :: lt) st := by
  intro hs hl hm H locs ls hW hS hL
  obtain ⟨j, hj⟩ := List.getElem?_of_mem ((fx_ll_mem (b0 := b0) (a0 :: a1 :: a2 :: a3 :: a4 :: a5 :: a6 :: a7 :: a8 :: a9 :: some (.inl x) :: lt) 0 (10, fx_co b0 (.inl x))).mpr ⟨10, .inl x, rfl, rfl⟩)
  exact lv_iinc (k := j) (x := Int32.ofInt x) (v := Int32.ofInt (x + v)) (cx_x hC) (cx_b hC) hd (fx_L_has hL) hj (by rw [Int32.ofInt_add]) (by simp only [List.length_cons]; omega) rfl (fun ls' hl' => k hs (fx_Ls (i := 10) (v := .inl (x + v)) hl hr) hm H locs ls' hW hS (fx_L_set (i := 10) (v := .inl (x + v)) (by simp only [List.length_cons]; omega) hl'))
theorem A_ild11 {a0 a1 a2 a3 a4 a5 a6 a7 a8 a9 a10 : Option AV} {lt : List (Option AV)} {x : Int} (hC : CX X b0 D cc own nL ret l rk mcR msR) (hd : decode cc pc = .ok (.iload 11, 2)) (k : AW X b0 D g kc ks Q n M (pc + 2) (a0 :: a1 :: a2 :: a3 :: a4 :: a5 :: a6 :: a7 :: a8 :: a9 :: a10 :: some (.inl x) :: lt) (.inl x :: st)) : AW X b0 D g kc ks Q n M pc (a0 :: a1 :: a2 :: a3 :: a4 :: a5 :: a6 :: a7 :: a8 :: a9 :: a10 :: some (.inl x) :: lt) st := A_iload (i := 11) hC hd rfl k
theorem A_ist11 {a0 a1 a2 a3 a4 a5 a6 a7 a8 a9 a10 a11 : Option AV} {lt : List (Option AV)} {x : Int} (hC : CX X b0 D cc own nL ret l rk mcR msR) (hd : decode cc pc = .ok (.istore 11, 2)) (k : AW X b0 D g kc ks Q n M (pc + 2) (a0 :: a1 :: a2 :: a3 :: a4 :: a5 :: a6 :: a7 :: a8 :: a9 :: a10 :: some (.inl x) :: lt) st) : AW X b0 D g kc ks Q n M pc (a0 :: a1 :: a2 :: a3 :: a4 :: a5 :: a6 :: a7 :: a8 :: a9 :: a10 :: a11 :: lt) (.inl x :: st) := A_istore (i := 11) hC hd (by simp only [List.length_cons]; omega) rfl k
theorem A_ald11 {a0 a1 a2 a3 a4 a5 a6 a7 a8 a9 a10 : Option AV} {lt : List (Option AV)} {x : Int} (hC : CX X b0 D cc own nL ret l rk mcR msR) (hd : decode cc pc = .ok (.aload 11, 2)) (k : AW X b0 D g kc ks Q n M (pc + 2) (a0 :: a1 :: a2 :: a3 :: a4 :: a5 :: a6 :: a7 :: a8 :: a9 :: a10 :: some (.inr x) :: lt) (.inr x :: st)) : AW X b0 D g kc ks Q n M pc (a0 :: a1 :: a2 :: a3 :: a4 :: a5 :: a6 :: a7 :: a8 :: a9 :: a10 :: some (.inr x) :: lt) st := A_aload (i := 11) hC hd rfl k
theorem A_ast11 {a0 a1 a2 a3 a4 a5 a6 a7 a8 a9 a10 a11 : Option AV} {lt : List (Option AV)} {x : Int} (hC : CX X b0 D cc own nL ret l rk mcR msR) (hd : decode cc pc = .ok (.astore 11, 2)) (k : AW X b0 D g kc ks Q n M (pc + 2) (a0 :: a1 :: a2 :: a3 :: a4 :: a5 :: a6 :: a7 :: a8 :: a9 :: a10 :: some (.inr x) :: lt) st) : AW X b0 D g kc ks Q n M pc (a0 :: a1 :: a2 :: a3 :: a4 :: a5 :: a6 :: a7 :: a8 :: a9 :: a10 :: a11 :: lt) (.inr x :: st) := A_astore (i := 11) hC hd (by simp only [List.length_cons]; omega) rfl k
theorem A_iinc11 {a0 a1 a2 a3 a4 a5 a6 a7 a8 a9 a10 : Option AV} {lt : List (Option AV)} {x v : Int} (hC : CX X b0 D cc own nL ret l rk mcR msR) (hd : decode cc pc = .ok (.iinc 11 v, 3)) (hr : rg (x + v)) (k : AW X b0 D g kc ks Q n M (pc + 3) (a0 :: a1 :: a2 :: a3 :: a4 :: a5 :: a6 :: a7 :: a8 :: a9 :: a10 :: some (.inl (x + v)) :: lt) st) : AW X b0 D g kc ks Q n M pc (a0 :: a1 :: a2 :: a3 :: a4 :: a5 :: a6 :: a7 :: a8 :: a9 :: a10 :: some (.inl x) :: lt) st := by
  intro hs hl hm H locs ls hW hS hL
  obtain ⟨j, hj⟩ := List.getElem?_of_mem ((fx_ll_mem (b0 := b0) (a0 :: a1 :: a2 :: a3 :: a4 :: a5 :: a6 :: a7 :: a8 :: a9 :: a10 :: some (.inl x) :: lt) 0 (11, fx_co b0 (.inl x))).mpr ⟨11, .inl x, rfl, rfl⟩)
  exact lv_iinc (k := j) (x := Int32.ofInt x) (v := Int32.ofInt (x + v)) (cx_x hC) (cx_b hC) hd (fx_L_has hL) hj (by rw [Int32.ofInt_add]) (by simp only [List.length_cons]; omega) rfl (fun ls' hl' => k hs (fx_Ls (i := 11) (v := .inl (x + v)) hl hr) hm H locs ls' hW hS (fx_L_set (i := 11) (v := .inl (x + v)) (by simp only [List.length_cons]; omega) hl'))
theorem A_iadd {i j : Int} (hC : CX X b0 D cc own nL ret l rk mcR msR) (hd : decode cc pc = .ok (.iadd, 1)) (hr : rg (i + j)) (k : AW X b0 D g kc ks Q n M (pc + 1) la (.inl (i + j) :: st)) : AW X b0 D g kc ks Q n M pc la (.inl j :: .inl i :: st) := by
  intro hs hl hm H locs ls hW hS hL
  have kk : WX X H locs kc ks Q (F0 (xm X) (pc + 1) ls (.int (Int32.ofInt (i + j)) :: st.map (fx_co b0))) := k (fx_Sc hr (fx_St (fx_St hs))) hl hm H locs ls hW hS hL
  rw [Int32.ofInt_add] at kk
  exact lv_iadd (cx_x hC) (cx_b hC) hd kk
theorem A_isub {i j : Int} (hC : CX X b0 D cc own nL ret l rk mcR msR) (hd : decode cc pc = .ok (.isub, 1)) (hr : rg (i - j)) (k : AW X b0 D g kc ks Q n M (pc + 1) la (.inl (i - j) :: st)) : AW X b0 D g kc ks Q n M pc la (.inl j :: .inl i :: st) := by
  intro hs hl hm H locs ls hW hS hL
  have kk : WX X H locs kc ks Q (F0 (xm X) (pc + 1) ls (.int (Int32.ofInt (i - j)) :: st.map (fx_co b0))) := k (fx_Sc hr (fx_St (fx_St hs))) hl hm H locs ls hW hS hL
  rw [Int32.ofInt_sub] at kk
  exact lv_isub (cx_x hC) (cx_b hC) hd kk
theorem A_imul {i j : Int} (hC : CX X b0 D cc own nL ret l rk mcR msR) (hd : decode cc pc = .ok (.imul, 1)) (hr : rg (i * j)) (k : AW X b0 D g kc ks Q n M (pc + 1) la (.inl (i * j) :: st)) : AW X b0 D g kc ks Q n M pc la (.inl j :: .inl i :: st) := by
  intro hs hl hm H locs ls hW hS hL
  have kk : WX X H locs kc ks Q (F0 (xm X) (pc + 1) ls (.int (Int32.ofInt (i * j)) :: st.map (fx_co b0))) := k (fx_Sc hr (fx_St (fx_St hs))) hl hm H locs ls hW hS hL
  rw [Int32.ofInt_mul] at kk
  exact lv_imul (cx_x hC) (cx_b hC) hd kk
theorem A_ifeq {i off : Int} {tgt : Nat} (hC : CX X b0 D cc own nL ret l rk mcR msR) (hd : decode cc pc = .ok (.ifCond .eq off, 3)) (ht : (pc : Int) + off = (tgt : Int)) (kt : i = 0 → AW X b0 D g kc ks Q n M tgt la st) (kf : ¬ i = 0 → AW X b0 D g kc ks Q n M (pc + 3) la st) : AW X b0 D g kc ks Q n M pc la (.inl i :: st) := by
  intro hs hl hm H locs ls hW hS hL
  exact lv_if_eq (cx_x hC) (cx_b hC) hd ht (fun h => kt ((fx_eq0 (fx_S1 hs)).mp h) (fx_St hs) hl hm H locs ls hW hS hL) (fun h => kf (fun e => h ((fx_eq0 (fx_S1 hs)).mpr e)) (fx_St hs) hl hm H locs ls hW hS hL)
theorem A_ifne {i off : Int} {tgt : Nat} (hC : CX X b0 D cc own nL ret l rk mcR msR) (hd : decode cc pc = .ok (.ifCond .ne off, 3)) (ht : (pc : Int) + off = (tgt : Int)) (kt : ¬ i = 0 → AW X b0 D g kc ks Q n M tgt la st) (kf : i = 0 → AW X b0 D g kc ks Q n M (pc + 3) la st) : AW X b0 D g kc ks Q n M pc la (.inl i :: st) := by
  intro hs hl hm H locs ls hW hS hL
  exact lv_if_ne (cx_x hC) (cx_b hC) hd ht (fun h => kt (fun e => h ((fx_eq0 (fx_S1 hs)).mpr e)) (fx_St hs) hl hm H locs ls hW hS hL) (fun h => kf ((fx_eq0 (fx_S1 hs)).mp (by first | exact h | exact Classical.not_not.mp h)) (fx_St hs) hl hm H locs ls hW hS hL)
theorem A_iflt {i off : Int} {tgt : Nat} (hC : CX X b0 D cc own nL ret l rk mcR msR) (hd : decode cc pc = .ok (.ifCond .lt off, 3)) (ht : (pc : Int) + off = (tgt : Int)) (kt : i < 0 → AW X b0 D g kc ks Q n M tgt la st) (kf : ¬ i < 0 → AW X b0 D g kc ks Q n M (pc + 3) la st) : AW X b0 D g kc ks Q n M pc la (.inl i :: st) := by
  intro hs hl hm H locs ls hW hS hL
  exact lv_if_lt (cx_x hC) (cx_b hC) hd ht (fun h => kt ((fx_lt0 (fx_S1 hs)).mp h) (fx_St hs) hl hm H locs ls hW hS hL) (fun h => kf (fun e => h ((fx_lt0 (fx_S1 hs)).mpr e)) (fx_St hs) hl hm H locs ls hW hS hL)
theorem A_ifge {i off : Int} {tgt : Nat} (hC : CX X b0 D cc own nL ret l rk mcR msR) (hd : decode cc pc = .ok (.ifCond .ge off, 3)) (ht : (pc : Int) + off = (tgt : Int)) (kt : 0 ≤ i → AW X b0 D g kc ks Q n M tgt la st) (kf : ¬ 0 ≤ i → AW X b0 D g kc ks Q n M (pc + 3) la st) : AW X b0 D g kc ks Q n M pc la (.inl i :: st) := by
  intro hs hl hm H locs ls hW hS hL
  exact lv_if_ge (cx_x hC) (cx_b hC) hd ht (fun h => kt ((fx_0le (fx_S1 hs)).mp h) (fx_St hs) hl hm H locs ls hW hS hL) (fun h => kf (fun e => h ((fx_0le (fx_S1 hs)).mpr e)) (fx_St hs) hl hm H locs ls hW hS hL)
theorem A_ifgt {i off : Int} {tgt : Nat} (hC : CX X b0 D cc own nL ret l rk mcR msR) (hd : decode cc pc = .ok (.ifCond .gt off, 3)) (ht : (pc : Int) + off = (tgt : Int)) (kt : 0 < i → AW X b0 D g kc ks Q n M tgt la st) (kf : ¬ 0 < i → AW X b0 D g kc ks Q n M (pc + 3) la st) : AW X b0 D g kc ks Q n M pc la (.inl i :: st) := by
  intro hs hl hm H locs ls hW hS hL
  exact lv_if_gt (cx_x hC) (cx_b hC) hd ht (fun h => kt ((fx_0lt (fx_S1 hs)).mp h) (fx_St hs) hl hm H locs ls hW hS hL) (fun h => kf (fun e => h ((fx_0lt (fx_S1 hs)).mpr e)) (fx_St hs) hl hm H locs ls hW hS hL)
theorem A_ifle {i off : Int} {tgt : Nat} (hC : CX X b0 D cc own nL ret l rk mcR msR) (hd : decode cc pc = .ok (.ifCond .le off, 3)) (ht : (pc : Int) + off = (tgt : Int)) (kt : i ≤ 0 → AW X b0 D g kc ks Q n M tgt la st) (kf : ¬ i ≤ 0 → AW X b0 D g kc ks Q n M (pc + 3) la st) : AW X b0 D g kc ks Q n M pc la (.inl i :: st) := by
  intro hs hl hm H locs ls hW hS hL
  exact lv_if_le (cx_x hC) (cx_b hC) hd ht (fun h => kt ((fx_le0 (fx_S1 hs)).mp h) (fx_St hs) hl hm H locs ls hW hS hL) (fun h => kf (fun e => h ((fx_le0 (fx_S1 hs)).mpr e)) (fx_St hs) hl hm H locs ls hW hS hL)
theorem A_icmpeq {i j off : Int} {tgt : Nat} (hC : CX X b0 D cc own nL ret l rk mcR msR) (hd : decode cc pc = .ok (.if_icmp .eq off, 3)) (ht : (pc : Int) + off = (tgt : Int)) (kt : i = j → AW X b0 D g kc ks Q n M tgt la st) (kf : ¬ i = j → AW X b0 D g kc ks Q n M (pc + 3) la st) : AW X b0 D g kc ks Q n M pc la (.inl j :: .inl i :: st) := by
  intro hs hl hm H locs ls hW hS hL
  exact lv_icmp_eq (cx_x hC) (cx_b hC) hd ht (fun h => kt ((fx_eq (fx_S1 (fx_St hs)) (fx_S1 hs)).mp h) (fx_St (fx_St hs)) hl hm H locs ls hW hS hL) (fun h => kf (fun e => h ((fx_eq (fx_S1 (fx_St hs)) (fx_S1 hs)).mpr e)) (fx_St (fx_St hs)) hl hm H locs ls hW hS hL)
theorem A_icmplt {i j off : Int} {tgt : Nat} (hC : CX X b0 D cc own nL ret l rk mcR msR) (hd : decode cc pc = .ok (.if_icmp .lt off, 3)) (ht : (pc : Int) + off = (tgt : Int)) (kt : i < j → AW X b0 D g kc ks Q n M tgt la st) (kf : ¬ i < j → AW X b0 D g kc ks Q n M (pc + 3) la st) : AW X b0 D g kc ks Q n M pc la (.inl j :: .inl i :: st) := by
  intro hs hl hm H locs ls hW hS hL
  exact lv_icmp_lt (cx_x hC) (cx_b hC) hd ht (fun h => kt ((fx_lt (fx_S1 (fx_St hs)) (fx_S1 hs)).mp h) (fx_St (fx_St hs)) hl hm H locs ls hW hS hL) (fun h => kf (fun e => h ((fx_lt (fx_S1 (fx_St hs)) (fx_S1 hs)).mpr e)) (fx_St (fx_St hs)) hl hm H locs ls hW hS hL)
theorem A_icmpge {i j off : Int} {tgt : Nat} (hC : CX X b0 D cc own nL ret l rk mcR msR) (hd : decode cc pc = .ok (.if_icmp .ge off, 3)) (ht : (pc : Int) + off = (tgt : Int)) (kt : j ≤ i → AW X b0 D g kc ks Q n M tgt la st) (kf : ¬ j ≤ i → AW X b0 D g kc ks Q n M (pc + 3) la st) : AW X b0 D g kc ks Q n M pc la (.inl j :: .inl i :: st) := by
  intro hs hl hm H locs ls hW hS hL
  exact lv_icmp_ge (cx_x hC) (cx_b hC) hd ht (fun h => kt ((fx_le (fx_S1 hs) (fx_S1 (fx_St hs))).mp h) (fx_St (fx_St hs)) hl hm H locs ls hW hS hL) (fun h => kf (fun e => h ((fx_le (fx_S1 hs) (fx_S1 (fx_St hs))).mpr e)) (fx_St (fx_St hs)) hl hm H locs ls hW hS hL)
theorem A_icmpgt {i j off : Int} {tgt : Nat} (hC : CX X b0 D cc own nL ret l rk mcR msR) (hd : decode cc pc = .ok (.if_icmp .gt off, 3)) (ht : (pc : Int) + off = (tgt : Int)) (kt : j < i → AW X b0 D g kc ks Q n M tgt la st) (kf : ¬ j < i → AW X b0 D g kc ks Q n M (pc + 3) la st) : AW X b0 D g kc ks Q n M pc la (.inl j :: .inl i :: st) := by
  intro hs hl hm H locs ls hW hS hL
  exact lv_icmp_gt (cx_x hC) (cx_b hC) hd ht (fun h => kt ((fx_lt (fx_S1 hs) (fx_S1 (fx_St hs))).mp h) (fx_St (fx_St hs)) hl hm H locs ls hW hS hL) (fun h => kf (fun e => h ((fx_lt (fx_S1 hs) (fx_S1 (fx_St hs))).mpr e)) (fx_St (fx_St hs)) hl hm H locs ls hW hS hL)
theorem A_icmple {i j off : Int} {tgt : Nat} (hC : CX X b0 D cc own nL ret l rk mcR msR) (hd : decode cc pc = .ok (.if_icmp .le off, 3)) (ht : (pc : Int) + off = (tgt : Int)) (kt : i ≤ j → AW X b0 D g kc ks Q n M tgt la st) (kf : ¬ i ≤ j → AW X b0 D g kc ks Q n M (pc + 3) la st) : AW X b0 D g kc ks Q n M pc la (.inl j :: .inl i :: st) := by
  intro hs hl hm H locs ls hW hS hL
  exact lv_icmp_le (cx_x hC) (cx_b hC) hd ht (fun h => kt ((fx_le (fx_S1 (fx_St hs)) (fx_S1 hs)).mp h) (fx_St (fx_St hs)) hl hm H locs ls hW hS hL) (fun h => kf (fun e => h ((fx_le (fx_S1 (fx_St hs)) (fx_S1 hs)).mpr e)) (fx_St (fx_St hs)) hl hm H locs ls hW hS hL)
theorem A_icmpne {i j off : Int} {tgt : Nat} (hC : CX X b0 D cc own nL ret l rk mcR msR) (hd : decode cc pc = .ok (.if_icmp .ne off, 3)) (ht : (pc : Int) + off = (tgt : Int)) (kt : ¬ i = j → AW X b0 D g kc ks Q n M tgt la st) (kf : i = j → AW X b0 D g kc ks Q n M (pc + 3) la st) : AW X b0 D g kc ks Q n M pc la (.inl j :: .inl i :: st) := by
  intro hs hl hm H locs ls hW hS hL
  exact lv_icmp_ne (cx_x hC) (cx_b hC) hd ht (fun h => kt (fun e => h ((fx_eq (fx_S1 (fx_St hs)) (fx_S1 hs)).mpr e)) (fx_St (fx_St hs)) hl hm H locs ls hW hS hL) (fun h => kf ((fx_eq (fx_S1 (fx_St hs)) (fx_S1 hs)).mp (by first | exact h | exact Classical.not_not.mp h)) (fx_St (fx_St hs)) hl hm H locs ls hW hS hL)
theorem A_goto {off : Int} {tgt : Nat} (hC : CX X b0 D cc own nL ret l rk mcR msR) (hd : decode cc pc = .ok (.goto off, 3)) (ht : (pc : Int) + off = (tgt : Int)) (k : AW X b0 D g kc ks Q n M tgt la st) : AW X b0 D g kc ks Q n M pc la st := by
  intro hs hl hm H locs ls hW hS hL
  exact lv_goto (cx_x hC) (cx_b hC) hd ht (k hs hl hm H locs ls hW hS hL)
theorem A_ifnull {r off : Int} {tgt : Nat} (hC : CX X b0 D cc own nL ret l rk mcR msR) (hd : decode cc pc = .ok (.ifnull off, 3)) (ht : (pc : Int) + off = (tgt : Int)) (kt : r < 0 → AW X b0 D g kc ks Q n M tgt la st) (kf : ¬ r < 0 → AW X b0 D g kc ks Q n M (pc + 3) la st) : AW X b0 D g kc ks Q n M pc la (.inr r :: st) := by
  intro hs hl hm H locs ls hW hS hL
  rw [List.map_cons]
  by_cases h0 : r < 0
  · rw [fx_cn h0]
    exact lv_ifnullN (cx_x hC) (cx_b hC) hd ht (kt h0 (fx_St hs) hl hm H locs ls hW hS hL)
  · rw [fx_cr (by omega)]
    exact lv_ifnull (cx_x hC) (cx_b hC) hd (kf h0 (fx_St hs) hl hm H locs ls hW hS hL)
theorem A_ifnonnull {r off : Int} {tgt : Nat} (hC : CX X b0 D cc own nL ret l rk mcR msR) (hd : decode cc pc = .ok (.ifnonnull off, 3)) (ht : (pc : Int) + off = (tgt : Int)) (kt : ¬ r < 0 → AW X b0 D g kc ks Q n M tgt la st) (kf : r < 0 → AW X b0 D g kc ks Q n M (pc + 3) la st) : AW X b0 D g kc ks Q n M pc la (.inr r :: st) := by
  intro hs hl hm H locs ls hW hS hL
  rw [List.map_cons]
  by_cases h0 : r < 0
  · rw [fx_cn h0]
    exact lv_ifnonnullN (cx_x hC) (cx_b hC) hd (kf h0 (fx_St hs) hl hm H locs ls hW hS hL)
  · rw [fx_cr (by omega)]
    exact lv_ifnonnull (cx_x hC) (cx_b hC) hd ht (kt h0 (fx_St hs) hl hm H locs ls hW hS hL)
theorem A_dup {v : AV} (hC : CX X b0 D cc own nL ret l rk mcR msR) (hd : decode cc pc = .ok (.dup, 1)) (k : AW X b0 D g kc ks Q n M (pc + 1) la (v :: v :: st)) : AW X b0 D g kc ks Q n M pc la (v :: st) := by
  intro hs hl hm H locs ls hW hS hL
  exact lv_dup (cx_x hC) (cx_b hC) hd (fx_cat b0 v) (k (fx_Sc (fx_S1 hs) hs) hl hm H locs ls hW hS hL)
theorem A_pop {v : AV} (hC : CX X b0 D cc own nL ret l rk mcR msR) (hd : decode cc pc = .ok (.pop, 1)) (k : AW X b0 D g kc ks Q n M (pc + 1) la st) : AW X b0 D g kc ks Q n M pc la (v :: st) := by
  intro hs hl hm H locs ls hW hS hL
  exact lv_pop (cx_x hC) (cx_b hC) hd (fx_cat b0 v) (k (fx_St hs) hl hm H locs ls hW hS hL)
theorem A_dup_x1 {v u : AV} (hC : CX X b0 D cc own nL ret l rk mcR msR) (hd : decode cc pc = .ok (.dup_x1, 1)) (k : AW X b0 D g kc ks Q n M (pc + 1) la (v :: u :: v :: st)) : AW X b0 D g kc ks Q n M pc la (v :: u :: st) := by
  intro hs hl hm H locs ls hW hS hL
  exact lv_dup_x1 (cx_x hC) (cx_b hC) hd (fx_cat b0 v) (fx_cat b0 u) (k (fx_Sc (fx_S1 hs) (fx_Sc (fx_S1 (fx_St hs)) (fx_Sc (fx_S1 hs) (fx_St (fx_St hs))))) hl hm H locs ls hW hS hL)
theorem A_dup2 {v u : AV} (hC : CX X b0 D cc own nL ret l rk mcR msR) (hd : decode cc pc = .ok (.dup2, 1)) (k : AW X b0 D g kc ks Q n M (pc + 1) la (v :: u :: v :: u :: st)) : AW X b0 D g kc ks Q n M pc la (v :: u :: st) := by
  intro hs hl hm H locs ls hW hS hL
  exact lv_dup2_11 (cx_x hC) (cx_b hC) hd (fx_cat b0 v) (fx_cat b0 u) (k (fx_Sc (fx_S1 hs) (fx_Sc (fx_S1 (fx_St hs)) hs)) hl hm H locs ls hW hS hL)
/-- the words of a field: class number ci with N fields, its k-th; the link by which 'own' names it -/
def fx_F (own : String) (idx ci k N : Nat) : Prop := ∃ (Cn : String) (T : u_T), vwCl[ci]? = some (Cn, T, N) ∧ (∀ w ∈ u_ws Cn T N, w ∈ zG) ∧ k < N ∧ Cond.fieldLink own idx (T k).1 (T k).2.1 (T k).2.2.1 ∈ zG
def fx_P (own : String) (idx ci k N : Nat) (ty : FieldType) (fin : Bool) : Prop := ∃ (Cn : String) (T : u_T) (ty0 : Nat → FieldType), vwCl[ci]? = some (Cn, T, N) ∧ (∀ w ∈ u_ws Cn T N, w ∈ zG) ∧ k < N ∧ Cond.fieldLink own idx (T k).1 (T k).2.1 (T k).2.2.1 ∈ zG ∧ (∀ k, k < N → parseFieldDescriptor (T k).2.2.1 = some (ty0 k)) ∧ (∀ a, a < N → ∀ b, b < N → a ≠ b → (T a).2.1 ≠ (T b).2.1) ∧ (T k).2.2.2 = fin ∧ ty0 k = ty ∧ (T k).1 = Cn
theorem fx_stored {H H1 H0 : Heap} {locs : List Loc} {M' : Mem} {c : Nat} (hW : Wd b0 D n M H) (hS : va_S (fun q => b0 ≤ q) H0 H locs) (hc : c < n) (he : va_at D.1 vwCl (b0 + c, fx_en b0 D.2 M' c) H1) (z : H1.size = H.size) (oq : ∀ q : Nat, q ≠ b0 + c → H1[q]? = H[q]?) (hM : ∀ d : Nat, d ≠ c → fx_en b0 D.2 M' d = fx_en b0 D.2 M d) (k : Nat) : Wd b0 D n M' H1 ∧ va_S (fun q => b0 ≤ q) H0 H1 (locs ++ [⟨b0 + c, k⟩]) := by
  have h := hW.2.set (A := fun q => b0 ≤ q) fx_wl_D (fx_wl_at hc) he oq
  rw [fx_wl_set hc hM] at h
  exact ⟨⟨z.trans hW.1, h⟩, hS.put z oq (Nat.le_add_right _ _)⟩
theorem A_get {idx ci k N : Nat} {c : Int} (hC : CX X b0 D cc own nL ret l rk mcR msR) (hd : decode cc pc = .ok (.getfield idx, 3)) (hF : fx_F own idx ci k N) (h100 : ci < 100) (hly : fx_ly c = (ci, N)) (hc : 0 ≤ c ∧ c < n) (kk : AW X b0 D g kc ks Q n M (pc + 3) la (fx_fv ci k (M c k) :: st)) : AW X b0 D g kc ks Q n M pc la (.inr c :: st) := by
  intro hs hl hm H locs ls hW hS hL
  obtain ⟨Cn, T, hq, hin, hk, hlk⟩ := hF
  obtain ⟨c', rfl⟩ : ∃ c' : Nat, c = c' := ⟨c.toNat, by omega⟩
  rw [List.map_cons, fx_cr hc.1, Int.toNat_natCast]
  have hat := fx_wl_at (b0 := b0) (cA := D.2) (M := M) (show c' < n by omega)
  rw [fx_en_o hly h100] at hat
  exact va_get (D := D.1) (cl := vwCl) (cx_x hC) (cx_b hC) (cx_t hC) hin (cx_o hC) (cx_k hC) hW.2 c' hat hq k hk ((cx_t hC) _ hlk) (fun _ h => h) (fx_fs_at hk) hd (kk (fx_Sc (by show rg _; rw [fx_fv_v]; exact hm.1 _ _) (fx_St hs)) hl hm H locs ls hW hS hL)
theorem A_getI {idx ci k N : Nat} {c kI : Int} (hC : CX X b0 D cc own nL ret l rk mcR msR) (hd : decode cc pc = .ok (.getfield idx, 3)) (hF : fx_F own idx ci k N) (hI : ci < 100 ∧ fx_isr ci k = false) (hkI : (k : Int) = kI) (hly : fx_ly c = (ci, N)) (hc : 0 ≤ c ∧ c < n) (kk : AW X b0 D g kc ks Q n M (pc + 3) la (.inl (M c kI) :: st)) : AW X b0 D g kc ks Q n M pc la (.inr c :: st) := A_get hC hd hF hI.1 hly hc (by unfold fx_fv; rw [hI.2, hkI]; exact kk)
theorem A_getR {idx ci k N : Nat} {c kI : Int} (hC : CX X b0 D cc own nL ret l rk mcR msR) (hd : decode cc pc = .ok (.getfield idx, 3)) (hF : fx_F own idx ci k N) (hI : ci < 100 ∧ fx_isr ci k = true) (hkI : (k : Int) = kI) (hly : fx_ly c = (ci, N)) (hc : 0 ≤ c ∧ c < n) (kk : AW X b0 D g kc ks Q n M (pc + 3) la (.inr (M c kI) :: st)) : AW X b0 D g kc ks Q n M pc la (.inr c :: st) := A_get hC hd hF hI.1 hly hc (by unfold fx_fv; rw [hI.2, hkI]; exact kk)
theorem A_getCR {idx ci k N : Nat} {c v : Int} (hC : CX X b0 D cc own nL ret l rk mcR msR) (hd : decode cc pc = .ok (.getfield idx, 3)) (hF : fx_F own idx ci k N) (hI : ci < 100 ∧ fx_isr ci k = true) (hly : fx_ly c = (ci, N)) (hc : 0 ≤ c ∧ c < n) (hg : g = true ∧ fx_kk ci k = true) (hv : fx_cv c k = v) (kk : AW X b0 D g kc ks Q n M (pc + 3) la (.inr v :: st)) : AW X b0 D g kc ks Q n M pc la (.inr c :: st) := A_rng (fun _ _ h => A_getR hC hd hF hI rfl hly hc (by rw [h.2 hg.1 c k (by rw [hly]; exact hg.2), hv]; exact kk))
theorem A_getCI {idx ci k N : Nat} {c v : Int} (hC : CX X b0 D cc own nL ret l rk mcR msR) (hd : decode cc pc = .ok (.getfield idx, 3)) (hF : fx_F own idx ci k N) (hI : ci < 100 ∧ fx_isr ci k = false) (hly : fx_ly c = (ci, N)) (hc : 0 ≤ c ∧ c < n) (hg : g = true ∧ fx_kk ci k = true) (hv : fx_cv c k = v) (kk : AW X b0 D g kc ks Q n M (pc + 3) la (.inl v :: st)) : AW X b0 D g kc ks Q n M pc la (.inr c :: st) := A_rng (fun _ _ h => A_getI hC hd hF hI rfl hly hc (by rw [h.2 hg.1 c k (by rw [hly]; exact hg.2), hv]; exact kk))
theorem fx_nfI (b0 : Nat) (x : Int) : narrow .int (fx_co b0 (.inl x)) = fx_co b0 (.inl x) ∧ fits .int (fx_co b0 (.inl x)) = true := ⟨rfl, rfl⟩
theorem fx_nfZ (b0 : Nat) (x : Int) (h : x = 0 ∨ x = 1) : narrow .boolean (fx_co b0 (.inl x)) = fx_co b0 (.inl x) ∧ fits .boolean (fx_co b0 (.inl x)) = true := by
  rcases h with rfl | rfl
  · exact ⟨show narrow .boolean (.int (Int32.ofInt 0)) = .int (Int32.ofInt 0) by decide, show fits .boolean (.int (Int32.ofInt 0)) = true by decide⟩
  · exact ⟨show narrow .boolean (.int (Int32.ofInt 1)) = .int (Int32.ofInt 1) by decide, show fits .boolean (.int (Int32.ofInt 1)) = true by decide⟩
theorem fx_nfO (b0 : Nat) (x : Int) (Cn : String) : narrow (.object Cn) (fx_co b0 (.inr x)) = fx_co b0 (.inr x) ∧ fits (.object Cn) (fx_co b0 (.inr x)) = true := by
  show narrow _ (va_rf (fx_rf b0 x)) = va_rf (fx_rf b0 x) ∧ fits _ (va_rf (fx_rf b0 x)) = true
  rcases va_rf_or (fx_rf b0 x) with h | ⟨a, h⟩ <;> rw [h] <;> exact ⟨rfl, rfl⟩
theorem fx_nfA (b0 : Nat) (x : Int) (t : FieldType) : narrow (.array t) (fx_co b0 (.inr x)) = fx_co b0 (.inr x) ∧ fits (.array t) (fx_co b0 (.inr x)) = true := by
  show narrow _ (va_rf (fx_rf b0 x)) = va_rf (fx_rf b0 x) ∧ fits _ (va_rf (fx_rf b0 x)) = true
  rcases va_rf_or (fx_rf b0 x) with h | ⟨a, h⟩ <;> rw [h] <;> exact ⟨rfl, rfl⟩
/-- a field gets a value; 'fin': a final one, in its constructor -/
theorem A_put {idx ci k N : Nat} {c x : Int} {ty : FieldType} {fin : Bool} {v : AV} (hC : CX X b0 D cc own nL ret l rk mcR msR) (hd : decode cc pc = .ok (.putfield idx, 3)) (hF : fx_P own idx ci k N ty fin) (hfin : fin = true → (xt X).name = "<init>" ∧ ∀ Cn T, vwCl[ci]? = some (Cn, T, N) → Cn = own) (h100 : ci < 100) (hv : v = fx_fv ci k x) (hnf : narrow ty (fx_co b0 v) = fx_co b0 v ∧ fits ty (fx_co b0 v) = true) (hly : fx_ly c = (ci, N)) (hc : 0 ≤ c ∧ c < n) (hu : g = true → fx_kk ci k = false) (kk : AW X b0 D g kc ks Q n (up M c k x) (pc + 3) la st) : AW X b0 D g kc ks Q n M pc la (v :: .inr c :: st) := by
  intro hs hl hm H locs ls hW hS hL
  obtain ⟨Cn, T, ty0, hq, hin, hk, hlk, hty, hnm, hfi, hte, hdc⟩ := hF
  obtain ⟨c', rfl⟩ : ∃ c' : Nat, c = c' := ⟨c.toNat, by omega⟩
  rw [List.map_cons, List.map_cons, fx_cr hc.1, Int.toNat_natCast]
  have hcn : c' < n := by omega
  have hat := fx_wl_at (b0 := b0) (cA := D.2) (M := M) hcn
  rw [fx_en_o hly h100] at hat
  have hx : rg x := by have := fx_S1 hs; unfold fx_ok at this; rw [hv, fx_fv_v] at this; exact this
  have hts := (cx_t hC)
  have hK := (cx_k hC)
  have hap := va_apart (own := own) hts hin ty0 hty hnm hK hq
  obtain ⟨r, h1, cell, q1, q2, q3, q4⟩ := hW.2 c' _ hat
  have hr : r = (Cn, T, N) := Option.some.inj (h1.symm.trans hq)
  subst hr
  obtain ⟨hSl, hfc, kC, hkC, hkind⟩ := hK.1 ci _ hq
  obtain ⟨cf, kf, fi, f, hi, hsl⟩ := hSl k hk
  have hlay := hts _ (hin _ (u_in_lay hk))
  have hst := (u_facts hfc hkC (u_lays hts hin hk) hi).1
  have hpd : parseFieldDescriptor (T k).2.2.1 = some ty := by rw [hty k hk, hte]
  have fin2 : ∀ (H' : Heap), H'[b0 + c']? = some (cell.setSlot f.slot (fx_co b0 v)) → H'.size = H.size → (∀ q, q ≠ b0 + c' → H'[q]? = H[q]?) → WX X H' (locs ++ [⟨b0 + c', f.slot⟩]) kc ks Q (F0 (xm X) (pc + 3) ls (st.map (fx_co b0))) := by
    intro H' e1 e2 e3
    rw [hsl] at e1
    obtain ⟨a1, a2⟩ := fx_stored (M' := up M c' k x) hW hS hcn (by
      rw [fx_en_o hly h100, ← fx_fs_set hk]
      refine ⟨_, hq, t_OB.to (V := updV (vp_V (fx_fs b0 ci N M c')) k (fx_co b0 v)) ⟨_, e1, q2, q3, t_set q4 hap hk _⟩ (fun j _ => ?_)⟩
      rw [hv]
      exact vp_updV_set (by simp [fx_fs, hk]) _ j) e2 e3 (fun d hd => fx_en_up (by omega)) f.slot
    exact kk (fx_St (fx_St hs)) hl (fx_okM_up hm hx (by rw [hly]; exact hu)) H' _ ls a1 a2 hL
  cases fin with
  | false =>
    unfold u_lay at hlay
    rw [if_neg (by rw [hfi]; decide)] at hlay
    have h6 := u_store hfc hkC hkind hlay hi hpd hnf.1 hnf.2
    exact W.putK (cx_x hC) (cx_b hC) (f := f) ⟨(cx_o hC), hts _ hlk, ⟨_, _, _, hi⟩, hst⟩ (by rw [q2]; exact h6) q1 q3 (by rw [hsl]; exact k2_hasslot (q4 k hk)) rfl rfl hd fin2
  | true =>
    unfold u_lay at hlay
    rw [if_pos hfi] at hlay
    have hcf : (xm X).cls = cf := by
      obtain ⟨_, _, c2, _, _, _, -, -, hf', -, -, -, hown2, -⟩ := Cond.laysFinal_spec hlay
      have e1 : c2 = cf := by have := hi.symm.trans hf'; simp at this; exact this.1.symm
      rw [hdc, (hfin rfl).2 Cn T hq] at hown2
      rw [← e1]; exact Option.some.inj ((cx_o hC).symm.trans hown2)
    have h6 := u_fits hfc hkC hkind (Or.inr hlay) hi hpd hnf.1 hnf.2
    exact W.putFinK (cx_x hC) (cx_b hC) (cx_o hC) (hts _ hlk) hi hst hcf (hfin rfl).1 (by rw [q2]; exact h6) q1 q3 (by rw [hsl]; exact k2_hasslot (q4 k hk)) rfl rfl hd fin2
theorem fx_ff {P : Prop} : (false = true) → P := fun h => by cases h
theorem A_putI {idx ci k N : Nat} {c x kI : Int} (hC : CX X b0 D cc own nL ret l rk mcR msR) (hd : decode cc pc = .ok (.putfield idx, 3)) (hF : fx_P own idx ci k N .int false) (hI : ci < 100 ∧ fx_isr ci k = false) (hkI : (k : Int) = kI) (hly : fx_ly c = (ci, N)) (hc : 0 ≤ c ∧ c < n) (hu : g = true → fx_kk ci k = false) (kk : AW X b0 D g kc ks Q n (up M c kI x) (pc + 3) la st) : AW X b0 D g kc ks Q n M pc la (.inl x :: .inr c :: st) := by subst hkI; exact A_put hC hd hF fx_ff hI.1 (fx_isI ci k x hI.2).symm (fx_nfI b0 x) hly hc hu kk
theorem A_putZ {idx ci k N : Nat} {c x kI : Int} (hC : CX X b0 D cc own nL ret l rk mcR msR) (hd : decode cc pc = .ok (.putfield idx, 3)) (hF : fx_P own idx ci k N .boolean false) (hI : ci < 100 ∧ fx_isr ci k = false) (hkI : (k : Int) = kI) (hly : fx_ly c = (ci, N)) (hc : 0 ≤ c ∧ c < n) (hu : g = true → fx_kk ci k = false) (hx : x = 0 ∨ x = 1) (kk : AW X b0 D g kc ks Q n (up M c kI x) (pc + 3) la st) : AW X b0 D g kc ks Q n M pc la (.inl x :: .inr c :: st) := by subst hkI; exact A_put hC hd hF fx_ff hI.1 (fx_isI ci k x hI.2).symm (fx_nfZ b0 x hx) hly hc hu kk
theorem A_putR {idx ci k N : Nat} {c x kI : Int} {Cn : String} (hC : CX X b0 D cc own nL ret l rk mcR msR) (hd : decode cc pc = .ok (.putfield idx, 3)) (hF : fx_P own idx ci k N (.object Cn) false) (hI : ci < 100 ∧ fx_isr ci k = true) (hkI : (k : Int) = kI) (hly : fx_ly c = (ci, N)) (hc : 0 ≤ c ∧ c < n) (hu : g = true → fx_kk ci k = false) (kk : AW X b0 D g kc ks Q n (up M c kI x) (pc + 3) la st) : AW X b0 D g kc ks Q n M pc la (.inr x :: .inr c :: st) := by subst hkI; exact A_put hC hd hF fx_ff hI.1 (fx_isR ci k x hI.2).symm (fx_nfO b0 x Cn) hly hc hu kk
end ROWS
