/-! ROWS of the abstract machine, second part: arrays, calls, ends, new cells, switches. -/
section ROWS2
variable {X : Cx} {b0 : Nat} {D : DD} {g : Bool} {kc ks : Nat} {Q : State → Prop} {n : Nat} {M : Mem} {pc : Nat} {la : List (Option AV)} {st : List AV} {cc : ByteArray} {own : String} {nL : Nat} {ret : Option FieldType} {l : Launch} {rk mcR msR : Nat}
theorem A_iald {N : Nat} {c i : Int} (hC : CX X b0 D cc own nL ret l rk mcR msR) (hd : decode cc pc = .ok (.iaload, 1)) (hly : fx_ly c = (100, N)) (hc : 0 ≤ c ∧ c < n) (hi : 0 ≤ i ∧ i < N) (kk : AW X b0 D g kc ks Q n M (pc + 1) la (.inl (M c i) :: st)) : AW X b0 D g kc ks Q n M pc la (.inl i :: .inr c :: st) := by
  intro hs hl hm H locs ls hW hS hL
  obtain ⟨c', rfl⟩ : ∃ c' : Nat, c = c' := ⟨c.toNat, by omega⟩
  rw [List.map_cons, List.map_cons, fx_cr hc.1, Int.toNat_natCast]
  have hat := fx_wl_at (b0 := b0) (cA := D.2) (M := M) (show c' < n by omega)
  rw [fx_en_i hly] at hat
  have hri : rg i := fx_S1 hs
  have k2 := kk (fx_Sc (hm.1 _ _) (fx_St (fx_St hs))) hl hm H locs ls hW hS hL
  refine va_iald (D := D.1) (cl := vwCl) (cx_x hC) (cx_b hC) (cx_k hC) hW.2 c' 0 hat rfl (fx_in hi.1 hi.2 hri) hd ?_
  rw [fx_clamp hri, Int.toNat_of_nonneg hi.1]
  exact k2
theorem A_zald {N : Nat} {c i : Int} (hC : CX X b0 D cc own nL ret l rk mcR msR) (hd : decode cc pc = .ok (.baload, 1)) (hly : fx_ly c = (101, N)) (hc : 0 ≤ c ∧ c < n) (hi : 0 ≤ i ∧ i < N) (kk : AW X b0 D g kc ks Q n M (pc + 1) la (.inl (M c i) :: st)) : AW X b0 D g kc ks Q n M pc la (.inl i :: .inr c :: st) := by
  intro hs hl hm H locs ls hW hS hL
  obtain ⟨c', rfl⟩ : ∃ c' : Nat, c = c' := ⟨c.toNat, by omega⟩
  rw [List.map_cons, List.map_cons, fx_cr hc.1, Int.toNat_natCast]
  have hat := fx_wl_at (b0 := b0) (cA := D.2) (M := M) (show c' < n by omega)
  rw [fx_en_z hly] at hat
  have hri : rg i := fx_S1 hs
  have k2 := kk (fx_Sc (hm.1 _ _) (fx_St (fx_St hs))) hl hm H locs ls hW hS hL
  refine va_zald (D := D.1) (cl := vwCl) (cx_x hC) (cx_b hC) (cx_k hC) hW.2 c' 1 hat rfl (fx_in hi.1 hi.2 hri) hd ?_
  rw [fx_clamp hri, Int.toNat_of_nonneg hi.1]
  exact k2
theorem A_aald {N : Nat} {c i : Int} (hC : CX X b0 D cc own nL ret l rk mcR msR) (hd : decode cc pc = .ok (.aaload, 1)) (hly : fx_ly c = (102, N)) (hc : 0 ≤ c ∧ c < n) (hi : 0 ≤ i ∧ i < N) (kk : AW X b0 D g kc ks Q n M (pc + 1) la (.inr (M c i) :: st)) : AW X b0 D g kc ks Q n M pc la (.inl i :: .inr c :: st) := by
  intro hs hl hm H locs ls hW hS hL
  obtain ⟨c', rfl⟩ : ∃ c' : Nat, c = c' := ⟨c.toNat, by omega⟩
  rw [List.map_cons, List.map_cons, fx_cr hc.1, Int.toNat_natCast]
  have hat := fx_wl_at (b0 := b0) (cA := D.2) (M := M) (show c' < n by omega)
  rw [fx_en_q hly] at hat
  have hri : rg i := fx_S1 hs
  have k2 := kk (fx_Sc (hm.1 _ _) (fx_St (fx_St hs))) hl hm H locs ls hW hS hL
  refine va_aldq (D := D.1) (cl := vwCl) (cx_x hC) (cx_b hC) (cx_k hC) hW.2 c' 2 hat rfl (fx_in hi.1 hi.2 hri) hd ?_
  rw [fx_clamp hri, Int.toNat_of_nonneg hi.1]
  exact k2
theorem A_aaldC {N : Nat} {c i v : Int} (hC : CX X b0 D cc own nL ret l rk mcR msR) (hd : decode cc pc = .ok (.aaload, 1)) (hly : fx_ly c = (102, N)) (hc : 0 ≤ c ∧ c < n) (hi : 0 ≤ i ∧ i < N) (hg : g = true ∧ fx_kk 102 i = true) (hv : fx_cv c i = v) (kk : AW X b0 D g kc ks Q n M (pc + 1) la (.inr v :: st)) : AW X b0 D g kc ks Q n M pc la (.inl i :: .inr c :: st) := A_rng (fun _ _ h => A_aald hC hd hly hc hi (by rw [h.2 hg.1 c i (by rw [hly]; exact hg.2), hv]; exact kk))
theorem A_alen {N ty : Nat} {c : Int} (hC : CX X b0 D cc own nL ret l rk mcR msR) (hd : decode cc pc = .ok (.arraylength, 1)) (hly : fx_ly c = (ty, N)) (hty : ty = 100 ∨ ty = 101 ∨ ty = 102) (hN : N < 2147483648) (hc : 0 ≤ c ∧ c < n) (kk : AW X b0 D g kc ks Q n M (pc + 1) la (.inl N :: st)) : AW X b0 D g kc ks Q n M pc la (.inr c :: st) := by
  intro hs hl hm H locs ls hW hS hL
  obtain ⟨c', rfl⟩ : ∃ c' : Nat, c = c' := ⟨c.toNat, by omega⟩
  rw [List.map_cons, fx_cr hc.1, Int.toNat_natCast]
  have hat := fx_wl_at (b0 := b0) (cA := D.2) (M := M) (show c' < n by omega)
  have k2 := kk (fx_Sc (v := .inl (N : Int)) (by show rg _; simp only [fx_v]; omega) (fx_St hs)) hl hm H locs ls hW hS hL
  rcases hty with rfl | rfl | rfl
  · rw [fx_en_i hly] at hat
    exact va_alen (D := D.1) (cl := vwCl) (cx_x hC) (cx_b hC) (cx_k hC) hW.2 c' 0 hat rfl Int32.ofInt_eq_ofNat.symm hd k2
  · rw [fx_en_z hly] at hat
    exact va_alen (D := D.1) (cl := vwCl) (cx_x hC) (cx_b hC) (cx_k hC) hW.2 c' 1 hat rfl Int32.ofInt_eq_ofNat.symm hd k2
  · rw [fx_en_q hly] at hat
    exact va_alen (D := D.1) (cl := vwCl) (cx_x hC) (cx_b hC) (cx_k hC) hW.2 c' 2 hat rfl Int32.ofInt_eq_ofNat.symm hd k2
theorem fx_updF {c' : Nat} {i x : Int} (hi : 0 ≤ i) : (fun j : Nat => Int32.ofInt (up M c' i x c' j)) = fun j : Nat => if j = i.toNat then Int32.ofInt x else Int32.ofInt (M c' j) := by
  funext j
  unfold up
  by_cases h : j = i.toNat
  · rw [if_pos h, if_pos ⟨rfl, by omega⟩]
  · rw [if_neg h, if_neg (by rintro ⟨-, e⟩; omega)]
theorem A_iast {N : Nat} {c i x : Int} (hC : CX X b0 D cc own nL ret l rk mcR msR) (hd : decode cc pc = .ok (.iastore, 1)) (hly : fx_ly c = (100, N)) (hc : 0 ≤ c ∧ c < n) (hi : 0 ≤ i ∧ i < N) (hu : g = true → fx_kk 100 i = false) (kk : AW X b0 D g kc ks Q n (up M c i x) (pc + 1) la st) : AW X b0 D g kc ks Q n M pc la (.inl x :: .inl i :: .inr c :: st) := by
  intro hs hl hm H locs ls hW hS hL
  obtain ⟨c', rfl⟩ : ∃ c' : Nat, c = c' := ⟨c.toNat, by omega⟩
  rw [List.map_cons, List.map_cons, List.map_cons, fx_cr hc.1, Int.toNat_natCast]
  have hcn : c' < n := by omega
  have hat := fx_wl_at (b0 := b0) (cA := D.2) (M := M) hcn
  rw [fx_en_i hly] at hat
  have hri : rg i := fx_S1 (fx_St hs)
  refine W.iast (cx_x hC) (cx_b hC) (j := Int32.ofInt i) (x := Int32.ofInt x) (hW.2 c' _ hat) (((cx_k hC).2 0 _ rfl).1 N (fun j => .int (Int32.ofInt (M c' j)))) (fun q => by cases q) (by show ¬ (_ ∨ (arrV _ _ _).slots.size ≤ _); rw [arrV_size]; exact fx_in hi.1 hi.2 hri) rfl rfl hd fun H1 e z oq => ?_
  obtain ⟨a1, a2⟩ := fx_stored (M' := up M c' i x) hW hS hcn (by
    rw [fx_en_i hly]
    show H1[b0 + c']? = some (vp_cell _ _)
    rw [e, vp_cell_i, vp_cell_i, arrV_store, fx_clamp hri]
    congr 2
    funext q
    have := congrFun (fx_updF (M := M) (c' := c') (x := x) hi.1) q
    rw [this]
    unfold updV
    split <;> rfl) z oq (fun d hd => fx_en_up (by omega)) (Int32.ofInt i).toNatClampNeg
  exact kk (fx_St (fx_St (fx_St hs))) hl (fx_okM_up hm (fx_S1 hs) (by rw [hly]; exact hu)) H1 _ ls a1 a2 hL
theorem A_zast {N : Nat} {c i x : Int} (hC : CX X b0 D cc own nL ret l rk mcR msR) (hd : decode cc pc = .ok (.bastore, 1)) (hly : fx_ly c = (101, N)) (hc : 0 ≤ c ∧ c < n) (hi : 0 ≤ i ∧ i < N) (hu : g = true → fx_kk 101 i = false) (hx : x = 0 ∨ x = 1) (kk : AW X b0 D g kc ks Q n (up M c i x) (pc + 1) la st) : AW X b0 D g kc ks Q n M pc la (.inl x :: .inl i :: .inr c :: st) := by
  intro hs hl hm H locs ls hW hS hL
  obtain ⟨c', rfl⟩ : ∃ c' : Nat, c = c' := ⟨c.toNat, by omega⟩
  rw [List.map_cons, List.map_cons, List.map_cons, fx_cr hc.1, Int.toNat_natCast]
  have hcn : c' < n := by omega
  have hat := fx_wl_at (b0 := b0) (cA := D.2) (M := M) hcn
  rw [fx_en_z hly] at hat
  have hri : rg i := fx_S1 (fx_St hs)
  have hnx : narrow .boolean (.int (Int32.ofInt x)) = .int (Int32.ofInt x) := (fx_nfZ b0 x hx).1
  refine W.zast (cx_x hC) (cx_b hC) (j := Int32.ofInt i) (x := Int32.ofInt x) (hW.2 c' _ hat) (((cx_k hC).2 1 _ rfl).1 N (fun j => .int (Int32.ofInt (M c' j)))) (fun q => by cases q) (by show ¬ (_ ∨ (arrV _ _ _).slots.size ≤ _); rw [arrV_size]; exact fx_in hi.1 hi.2 hri) rfl rfl hd fun H1 e z oq => ?_
  rw [hnx] at e
  obtain ⟨a1, a2⟩ := fx_stored (M' := up M c' i x) hW hS hcn (by
    rw [fx_en_z hly]
    show H1[b0 + c']? = some (vp_cell _ _)
    rw [e, vp_cell_i, vp_cell_i, arrV_store, fx_clamp hri]
    congr 2
    funext q
    have := congrFun (fx_updF (M := M) (c' := c') (x := x) hi.1) q
    rw [this]
    unfold updV
    split <;> rfl) z oq (fun d hd => fx_en_up (by omega)) (Int32.ofInt i).toNatClampNeg
  exact kk (fx_St (fx_St (fx_St hs))) hl (fx_okM_up hm (fx_S1 hs) (by rw [hly]; exact hu)) H1 _ ls a1 a2 hL
-- ===== contracts
def fx_Pc (b0 : Nat) (D : DD) (g : Bool) (as : List AV) (n : Nat) (M : Mem) : Array Value → State → Prop := va_Pc (as.map (fx_co b0)) (fun U => Wd b0 D n M U.heap ∧ fx_KK D U ∧ fx_okS as ∧ fx_okM g M)
def fx_Qc (b0 : Nat) (D : DD) (g : Bool) (post : Option AV → Nat → Mem → Prop) : Array Value → State → Outcome → State → Prop := fun _ s0 oc t => ∃ (r : Option AV) (n' : Nat) (M' : Mem), oc = .returned (r.map (fx_co b0)) ∧ fx_okO r ∧ fx_okM g M' ∧ post r n' M' ∧ Wd b0 D n' M' t.heap ∧ s0.heap.size ≤ t.heap.size ∧ ∀ q : Nat, q < b0 → t.heap[q]? = s0.heap[q]?
def fx_ws (md : MD) : List Cond := Cond.code md.1 md.2.1 md.2.2.1 md.2.2.2 :: zG
def fx_rm (rk mc ms : Nat) : Room := { frames := rk, cells := mc, slots := ms, locals := 40 * rk }
/-- the contract of a method: rank rk (how deep its calls go), mc new cells with ms slots -/
def AMet (l : Launch) (md : MD) (g : Bool) (rk mc ms : Nat) (as : List AV) (n : Nat) (M : Mem) (post : Option AV → Nat → Mem → Prop) : Prop :=
  ∀ (b0 : Nat) (D : DD), Met l md.1 (fx_ws md) (fx_rm rk mc ms) (fx_Pc b0 D g as n M) (fx_Qc b0 D g post) mc ms (fun q => b0 ≤ q)
/-- a method that makes nothing, with its answer and the cells behind it -/
def AF (l : Launch) (md : MD) (rk : Nat) (as : List AV) (n : Nat) (M : Mem) (r : Option AV) (M1 : Mem) : Prop := AMet l md true rk 0 0 as n M (fun r' n' M' => r' = r ∧ n' = n ∧ M' = M1)
def fx_Q (X : Cx) (b0 : Nat) (D : DD) (g : Bool) (mc ms : Nat) (post : Option AV → Nat → Mem → Prop) : State → Prop := MQ (xb X) (fx_Qc b0 D g post) (xa X) (xs X) mc ms (fun q => b0 ≤ q)
theorem AM_intro {md : MD} {mc ms : Nat} {as : List AV} {post : Option AV → Nat → Mem → Prop} (hy : plainName md.1.cls = true) (hlen : as.length ≤ md.2.2.1)
    (body : ∀ (X : Cx) (b0 : Nat) (D : DD), CX X b0 D md.2.1 md.1.cls md.2.2.1 md.2.2.2 l rk mc ms → (xt X).name = md.1.name → AW X b0 D g 0 0 (fx_Q X b0 D g mc ms post) n M 0 (as.map some ++ List.replicate (md.2.2.1 - as.length) none) []) : AMet l md g rk mc ms as n M post := by
  intro b0 D
  refine Met.ofW (cc := md.2.1) (maxL := md.2.2.1) (ret := md.2.2.2) hy rfl ?_
  intro p e s m args below meth c s₁ B hml hv
  obtain ⟨rfl, hW, hK, hoS, hoM⟩ := hv
  have hts := atoms_spec (ws := fx_ws md) B.pre
  have hown : s.vm.findClass md.1.cls = some m.cls := findClass_of_methodNamed B.named
  have hX := body (p, l, e, fx_rm rk mc ms, s, m, (as.map (fx_co b0)).toArray, below, meth, c) b0 D ⟨B.exec, B.bytes, hml, hown, fun w hw => hts w (List.mem_cons_of_mem _ hw), hK, by show b0 ≤ s.heap.size; rw [hW.1]; omega, B.notSynchronized, B.returns, rfl, Nat.le_refl _, Nat.le_refl _, Nat.le_refl _, Nat.le_refl _⟩ (name_of_methodNamed B.named B.method).1
  rw [lg_entry_eq]
  refine hX (fun v h => absurd h List.not_mem_nil) ?_ hoM s.heap [] _ hW va_S.rf ?_
  · intro v h
    rcases List.mem_append.mp h with h | h
    · obtain ⟨w, hw, e⟩ := List.mem_map.mp h
      exact (Option.some.inj e) ▸ hoS w hw
    · exact absurd (List.eq_of_mem_replicate h) (by simp)
  · have h1 := lv_entry (as.map (fx_co b0)) (n := md.2.2.1) (by rw [fx_sl]; simpa using hlen)
    obtain ⟨h2, h3, h4⟩ := h1
    refine ⟨by rw [h2]; simp; omega, h3, fun i v hi => ?_⟩
    refine h4 (i, fx_co b0 v) ?_
    rw [fx_L_entry]
    refine (fx_ll_mem (as.map some) 0 _).mpr ⟨i, v, ?_, by simp⟩
    by_cases hl : i < as.length
    · rw [List.getElem?_append_left (by simpa using hl)] at hi
      exact hi
    · rw [List.getElem?_append_right (by simpa using hl)] at hi
      have := List.mem_of_getElem? hi
      exact absurd (List.eq_of_mem_replicate this) (by simp)
-- ===== ends
variable {mc ms : Nat} {post : Option AV → Nat → Mem → Prop}
theorem fx_end {H : Heap} {locs : List Loc} {r : Option AV} (hr : fx_okO r) (hm : fx_okM g M) (hp : post r n M) (hb : b0 ≤ (xs X).heap.size) (hW : Wd b0 D n M H) (hS : va_S (fun q => b0 ≤ q) (xs X).heap H locs) : ∀ t : State, t.heap = H → (xs X).WarmedH t.vm → fx_Qc b0 D g post (xa X) (xs X) (.returned (r.map (fx_co b0))) t := by
  intro t ht _
  refine ⟨r, n, M, rfl, hr, hm, hp, by rw [ht]; exact hW, by rw [ht]; exact hS.1, fun q hq => ?_⟩
  rw [ht]
  exact hS.2.1 q (by omega) (by omega)
theorem A_iret {i : Int} (hC : CX X b0 D cc own nL ret l rk mcR msR) (hd : decode cc pc = .ok (.ireturn, 1)) (hret : ret = some .int) (h1 : kc ≤ mc) (h2 : ks ≤ ms) (hp : post (some (.inl i)) n M) : AW X b0 D g kc ks (fx_Q X b0 D g mc ms post) n M pc la [.inl i] := by
  intro hs hl hm H locs ls hW hS hL
  refine W.widen h1 h2 ?_
  exact W.iret (cx_x hC) (cx_b hC) (by rw [cx_rt hC, hret]) (fx_end (r := some (.inl i)) (fun v h => by cases h; exact fx_S1 hs) hm hp (cx_0 hC) hW hS) (fun q hq => hS.2.2 q hq) hd (cx_lk hC)
theorem A_zret {i : Int} (hC : CX X b0 D cc own nL ret l rk mcR msR) (hd : decode cc pc = .ok (.ireturn, 1)) (hret : ret = some .boolean) (h1 : kc ≤ mc) (h2 : ks ≤ ms) (hi : i = 0 ∨ i = 1) (hp : post (some (.inl i)) n M) : AW X b0 D g kc ks (fx_Q X b0 D g mc ms post) n M pc la [.inl i] := by
  intro hs hl hm H locs ls hW hS hL
  refine W.widen h1 h2 ?_
  exact W.zret (cx_x hC) (cx_b hC) (ty := .boolean) (by rw [cx_rt hC, hret]) (fx_nfZ b0 i hi).1 (fx_end (r := some (.inl i)) (fun v h => by cases h; exact fx_S1 hs) hm hp (cx_0 hC) hW hS) (fun q hq => hS.2.2 q hq) hd (cx_lk hC)
theorem A_aret {r : Int} {Cn : String} (hC : CX X b0 D cc own nL ret l rk mcR msR) (hd : decode cc pc = .ok (.areturn, 1)) (hret : ret = some (.object Cn)) (h1 : kc ≤ mc) (h2 : ks ≤ ms) (hp : post (some (.inr r)) n M) : AW X b0 D g kc ks (fx_Q X b0 D g mc ms post) n M pc la [.inr r] := by
  intro hs hl hm H locs ls hW hS hL
  refine W.widen h1 h2 ?_
  exact W.aret (cx_x hC) (cx_b hC) (rt := .object Cn) (by rw [cx_rt hC, hret]) (Or.inl ⟨Cn, rfl⟩) (va_rf_or _) (fx_end (r := some (.inr r)) (fun v h => by cases h; exact fx_S1 hs) hm hp (cx_0 hC) hW hS) (fun q hq => hS.2.2 q hq) hd (cx_lk hC)
theorem A_vret (hC : CX X b0 D cc own nL ret l rk mcR msR) (hd : decode cc pc = .ok (.return_, 1)) (hret : ret = none) (h1 : kc ≤ mc) (h2 : ks ≤ ms) (hp : post none n M) : AW X b0 D g kc ks (fx_Q X b0 D g mc ms post) n M pc la [] := by
  intro hs hl hm H locs ls hW hS hL
  refine W.widen h1 h2 ?_
  exact W.vret (cx_x hC) (cx_b hC) (by rw [cx_rt hC, hret]) (fx_end (r := none) (fun v h => by cases h) hm hp (cx_0 hC) hW hS) (fun q hq => hS.2.2 q hq) hd (cx_lk hC)
-- ===== calls
theorem fx_catS (b0 : Nat) (st : List AV) : ((st.map (fx_co b0)).map fun v => v.category).sum = st.length := by
  induction st with
  | nil => rfl
  | cons v st ih => simp only [List.map_cons, List.sum_cons, fx_cat, ih, List.length_cons]; omega
theorem A_run {st0 : List AV} {a0 : Array Value} {mcx msx : Nat} (hb : b0 ≤ (xs X).heap.size)
    (hrun : ∀ (H : Heap) (locs : List Loc) (ls : Array Slot), fx_okS st0 → fx_okM g M → Wd b0 D n M H → fx_L b0 ls la → va_Run (xp X) (xl X) (xe X) (xR X) (xs X) (xm X) (xa X) (xb X) (xt X) (xc X) H locs kc ks mcx msx (F0 (xm X) pc ls (st0.map (fx_co b0))) (st.map (fx_co b0)) (fx_Qc b0 D g post a0) (fun q => b0 ≤ q))
    (hst : ∀ v ∈ st, v ∈ st0) (kk : ∀ (r : Option AV) (n' : Nat) (M' : Mem), post r n' M' → AW X b0 D g (kc + mcx) (ks + msx) Q n' M' (pc + 3) la (r.toList ++ st)) : AW X b0 D g kc ks Q n M pc la st0 := by
  intro hs hl hm H locs ls hW hS hL T hT S0
  obtain ⟨v, st₀, t, T', L, h0, X', hLo, e1, e2, ⟨r, n', M', hv, hor, hom, hp, hW', hz, hk⟩, go⟩ := hrun H locs ls hs hm hW hL T hT S0
  cases hv
  rw [h0] at hz hk
  obtain ⟨t2, a1, b1⟩ := kk r n' M' hp (fun v hv => by
      rcases List.mem_append.mp hv with h | h
      · exact hor v (by simpa using h)
      · exact hs v (hst v h)) hl hom t.heap (locs ++ L) ls hW'
    ⟨Nat.le_trans hS.1 hz, fun q h1 h2 => by rw [hk q (by omega)]; exact hS.2.1 q h1 h2, fun q hq => by
      rcases List.mem_append.mp hq with h | h
      · exact hS.2.2 q h
      · exact hLo q h⟩ hL T' e1 X'
  refine ⟨t2, go t2 ?_, b1⟩
  have : (r.toList ++ st).map (fx_co b0) = (r.map (fx_co b0)).toList ++ st.map (fx_co b0) := by cases r <;> rfl
  rw [this] at a1
  exact a1
theorem fx_blind {as : List AV} : FrameBlind (fx_Pc b0 D g as n M) := fun a U fr mk q => by
  obtain ⟨q0, q1, qK, q3⟩ := q
  exact ⟨q0, q1, fx_KK.same (u := U) (U := U.calling fr mk a) rfl qK, q3⟩
/-- what the tables say of a method: an instance's (C: its class), a static one; na parameters -/
def MV (md : MD) (na : Nat) : Prop := Cond.instanceMethod md.1 ∈ zG ∧ Cond.initialized md.1.cls ∈ zG ∧ Cond.code md.1 md.2.1 md.2.2.1 md.2.2.2 ∈ zG ∧ (md.1.cls ≠ "java/lang/invoke/MethodHandle" ∧ md.1.cls ≠ "java/lang/invoke/VarHandle" ∧ (parseMethodDescriptor md.1.desc).map (fun d => d.parameters.length) = some na) ∧ md.2.2.1 ≤ 20
def MSt (md : MD) (na : Nat) : Prop := Cond.static md.1 ∈ zG ∧ Cond.initialized md.1.cls ∈ zG ∧ Cond.code md.1 md.2.1 md.2.2.1 md.2.2.2 ∈ zG ∧ (md.1.cls ≠ "java/lang/invoke/MethodHandle" ∧ md.1.cls ≠ "java/lang/invoke/VarHandle" ∧ (parseMethodDescriptor md.1.desc).map (fun d => d.parameters.length) = some na) ∧ md.2.2.1 ≤ 20
theorem fx_gi {md : MD} (h : Cond.code md.1 md.2.1 md.2.2.1 md.2.2.2 ∈ zG) : GoodIn zG (fx_ws md) := fun w hw => by
  rcases List.mem_cons.mp hw with rfl | hw
  · exact ⟨h, zG_good h⟩
  · exact ⟨hw, zG_good hw⟩
theorem fx_cB {md : MD} {na idx mcx msx r' : Nat} (hC : CX X b0 D cc own nL ret l rk mcR msR) (hc : Cond.code md.1 md.2.1 md.2.2.1 md.2.2.2 ∈ zG) (hi : Cond.initialized md.1.cls ∈ zG) (hd : md.1.cls ≠ "java/lang/invoke/MethodHandle" ∧ md.1.cls ≠ "java/lang/invoke/VarHandle" ∧ (parseMethodDescriptor md.1.desc).map (fun d => d.parameters.length) = some na) (h20 : md.2.2.1 ≤ 20) (hl : Cond.methodLink own idx md.1 ∈ zG) (hr : r' < rk) : CallB (xR X) (xs X) (xa X) own idx md.1 md.2.1 md.2.2.1 md.2.2.2 (fx_ws md) (fx_rm r' mcx msx) mcx msx na := by
  have hR := cx_R hC
  exact callB_of na (cx_t hC) (fx_gi hc) rfl rfl rfl (cx_t hC _ hi) (cx_t hC _ hl) hd ⟨by show r' + 1 ≤ _; omega, by show 8 + (md.2.2.1 + 11) + 40 * r' ≤ _; omega⟩
theorem fx_cN {md : MD} {host : String} {na idx mcx msx r' : Nat} (hC : CX X b0 D cc own nL ret l rk mcR msR) (hc : Cond.code md.1 md.2.1 md.2.2.1 md.2.2.2 ∈ zG) (hi : Cond.initialized md.1.cls ∈ zG) (hd : md.1.cls ≠ "java/lang/invoke/MethodHandle" ∧ md.1.cls ≠ "java/lang/invoke/VarHandle" ∧ (parseMethodDescriptor md.1.desc).map (fun d => d.parameters.length) = some na) (h20 : md.2.2.1 ≤ 20) (hl : (own, idx, md.1, host) ∈ fx_nest) (hr : r' < rk) : va_CN (xR X) (xs X) (xa X) own idx md.1 host md.2.1 md.2.2.1 md.2.2.2 (fx_ws md) (fx_rm r' mcx msx) mcx msx na := by
  have hR := cx_R hC
  exact va_cnB na (cx_t hC) (fx_gi hc) rfl rfl rfl ((cx_kk hC).2.2 _ hl) (cx_t hC _ hi) hd ⟨by show r' + 1 ≤ _; omega, by show 8 + (md.2.2.1 + 11) + 40 * r' ≤ _; omega⟩
theorem A_callV {idx na mcx msx r' : Nat} {md : MD} {as st0 : List AV} {c : Int} (hC : CX X b0 D cc own nL ret l rk mcR msR) (hd : decode cc pc = .ok (.invokevirtual idx, 3)) (hmv : MV md na) (hlk : Cond.methodLink own idx md.1 ∈ zG) (hr : r' < rk) (hsel : Cond.selects md.1.cls md.1 md.1 ∈ zG) {ci N : Nat} {T : u_T} (hq : vwCl[ci]? = some (md.1.cls, T, N) ∧ ci < 100) (hly : fx_ly c = (ci, N)) (hc : 0 ≤ c ∧ c < n) (hM : AMet l md g r' mcx msx (.inr c :: as) n M post) (hst : as.reverse ++ .inr c :: st = st0) (hna : as.length = na) (h8 : st.length ≤ 8) (hf : kc + mcx ≤ mcR ∧ ks + msx ≤ msR) (hlen : la.length = nL)
    (kk : ∀ (r : Option AV) (n' : Nat) (M' : Mem), post r n' M' → AW X b0 D g (kc + mcx) (ks + msx) Q n' M' (pc + 3) la (r.toList ++ st)) : AW X b0 D g kc ks Q n M pc la st0 := by
  subst hst
  have hR := cx_R hC
  refine A_run (a0 := ((.inr c :: as).map (fx_co b0)).toArray) (mcx := mcx) (msx := msx) (post := post) (st := st) (cx_0 hC) (fun H locs ls hs hm hW hL => ?_) (fun v hv => List.mem_append_right _ (List.mem_cons_of_mem _ hv)) kk
  obtain ⟨c', rfl⟩ : ∃ c' : Nat, c = c' := ⟨c.toNat, by omega⟩
  have hat := fx_wl_at (b0 := b0) (cA := D.2) (M := M) (show c' < n by omega)
  rw [fx_en_o hly hq.2] at hat
  have hcr : fx_co b0 (.inr (c' : Int)) = .ref (b0 + c') := by rw [fx_cr hc.1, Int.toNat_natCast]
  have hM' := hM b0 D
  rw [← cx_l hC] at hM'
  have hcw : (((.inr (c' : Int) :: as).map (fx_co b0)).toArray) = (Value.ref (b0 + c') :: as.map (fx_co b0)).toArray := by rw [List.map_cons, hcr]
  rw [hcw]
  refine va_runV (As := as.map (fx_co b0)) (rest := st.map (fx_co b0)) ⟨cx_x hC, cx_b hC, cx_ml hC, cx_o hC, cx_t hC⟩ hM' ⟨fx_cB hC hmv.2.2.1 hmv.2.1 hmv.2.2.2.1 hmv.2.2.2.2 hlk hr, cx_t hC _ hmv.1, cx_t hC _ hsel⟩ ⟨fx_blind, va_recv (cx_k hC) hW.2 hq.1 hat, fun U hU hWm => ⟨by rw [List.map_cons, hcr], by rw [hU]; exact hW, fx_KK.warm hWm (cx_kk hC), fun v hv => ?_, hm⟩⟩ rfl (by simpa using hna) (by rw [← hlen]; exact hL.1) (by simp [List.map_append, hcr]) (lv_room (by rw [fx_catS]; exact h8)) hd ⟨by omega, by omega⟩
  rcases List.mem_cons.mp hv with rfl | hv
  · exact hs _ (List.mem_append_right _ List.mem_cons_self)
  · exact hs _ (List.mem_append_left _ (List.mem_reverse.mpr hv))
theorem A_VF {idx na r' : Nat} {md : MD} {as st0 : List AV} {c : Int} {r : Option AV} {M1 : Mem} (hC : CX X b0 D cc own nL ret l rk mcR msR) (hd : decode cc pc = .ok (.invokevirtual idx, 3)) (hmv : MV md na) (hlk : Cond.methodLink own idx md.1 ∈ zG) (hr : r' < rk) (hsel : Cond.selects md.1.cls md.1 md.1 ∈ zG) {ci N : Nat} {T : u_T} (hq : vwCl[ci]? = some (md.1.cls, T, N) ∧ ci < 100) (hly : fx_ly c = (ci, N)) (hc : 0 ≤ c ∧ c < n) (hM : AF l md r' (.inr c :: as) n M r M1) (hst : as.reverse ++ .inr c :: st = st0) (hna : as.length = na) (h8 : st.length ≤ 8) (hf : kc ≤ mcR ∧ ks ≤ msR) (hlen : la.length = nL) (kk : AW X b0 D true kc ks Q n M1 (pc + 3) la (r.toList ++ st)) : AW X b0 D true kc ks Q n M pc la st0 := A_callV hC hd hmv hlk hr hsel hq hly hc hM hst hna h8 hf hlen (fun r' n' M' h => by obtain ⟨rfl, rfl, rfl⟩ := h; exact kk)
theorem A_callVN {idx na mcx msx r' : Nat} {host : String} {md : MD} {as st0 : List AV} {c : Int} (hC : CX X b0 D cc own nL ret l rk mcR msR) (hd : decode cc pc = .ok (.invokevirtual idx, 3)) (hmv : MV md na) (hlk : (own, idx, md.1, host) ∈ fx_nest) (hr : r' < rk) (hsel : Cond.selects md.1.cls md.1 md.1 ∈ zG) {ci N : Nat} {T : u_T} (hq : vwCl[ci]? = some (md.1.cls, T, N) ∧ ci < 100) (hly : fx_ly c = (ci, N)) (hc : 0 ≤ c ∧ c < n) (hM : AMet l md g r' mcx msx (.inr c :: as) n M post) (hst : as.reverse ++ .inr c :: st = st0) (hna : as.length = na) (h8 : st.length ≤ 8) (hf : kc + mcx ≤ mcR ∧ ks + msx ≤ msR) (hlen : la.length = nL)
    (kk : ∀ (r : Option AV) (n' : Nat) (M' : Mem), post r n' M' → AW X b0 D g (kc + mcx) (ks + msx) Q n' M' (pc + 3) la (r.toList ++ st)) : AW X b0 D g kc ks Q n M pc la st0 := by
  subst hst
  have hR := cx_R hC
  refine A_run (a0 := ((.inr c :: as).map (fx_co b0)).toArray) (mcx := mcx) (msx := msx) (post := post) (st := st) (cx_0 hC) (fun H locs ls hs hm hW hL => ?_) (fun v hv => List.mem_append_right _ (List.mem_cons_of_mem _ hv)) kk
  obtain ⟨c', rfl⟩ : ∃ c' : Nat, c = c' := ⟨c.toNat, by omega⟩
  have hat := fx_wl_at (b0 := b0) (cA := D.2) (M := M) (show c' < n by omega)
  rw [fx_en_o hly hq.2] at hat
  have hcr : fx_co b0 (.inr (c' : Int)) = .ref (b0 + c') := by rw [fx_cr hc.1, Int.toNat_natCast]
  have hM' := hM b0 D
  rw [← cx_l hC] at hM'
  have hcw : (((.inr (c' : Int) :: as).map (fx_co b0)).toArray) = (Value.ref (b0 + c') :: as.map (fx_co b0)).toArray := by rw [List.map_cons, hcr]
  rw [hcw]
  refine va_runVN (As := as.map (fx_co b0)) (rest := st.map (fx_co b0)) ⟨cx_x hC, cx_b hC, cx_ml hC, cx_o hC, cx_t hC⟩ hM' ⟨fx_cN hC hmv.2.2.1 hmv.2.1 hmv.2.2.2.1 hmv.2.2.2.2 hlk hr, cx_t hC _ hmv.1, cx_t hC _ hsel⟩ ⟨fx_blind, va_recv (cx_k hC) hW.2 hq.1 hat, fun U hU hWm => ⟨by rw [List.map_cons, hcr], by rw [hU]; exact hW, fx_KK.warm hWm (cx_kk hC), fun v hv => ?_, hm⟩⟩ rfl (by simpa using hna) (by rw [← hlen]; exact hL.1) (by simp [List.map_append, hcr]) (lv_room (by rw [fx_catS]; exact h8)) hd ⟨by omega, by omega⟩
  rcases List.mem_cons.mp hv with rfl | hv
  · exact hs _ (List.mem_append_right _ List.mem_cons_self)
  · exact hs _ (List.mem_append_left _ (List.mem_reverse.mpr hv))
theorem A_VNF {idx na r' : Nat} {host : String} {md : MD} {as st0 : List AV} {c : Int} {r : Option AV} {M1 : Mem} (hC : CX X b0 D cc own nL ret l rk mcR msR) (hd : decode cc pc = .ok (.invokevirtual idx, 3)) (hmv : MV md na) (hlk : (own, idx, md.1, host) ∈ fx_nest) (hr : r' < rk) (hsel : Cond.selects md.1.cls md.1 md.1 ∈ zG) {ci N : Nat} {T : u_T} (hq : vwCl[ci]? = some (md.1.cls, T, N) ∧ ci < 100) (hly : fx_ly c = (ci, N)) (hc : 0 ≤ c ∧ c < n) (hM : AF l md r' (.inr c :: as) n M r M1) (hst : as.reverse ++ .inr c :: st = st0) (hna : as.length = na) (h8 : st.length ≤ 8) (hf : kc ≤ mcR ∧ ks ≤ msR) (hlen : la.length = nL) (kk : AW X b0 D true kc ks Q n M1 (pc + 3) la (r.toList ++ st)) : AW X b0 D true kc ks Q n M pc la st0 := A_callVN hC hd hmv hlk hr hsel hq hly hc hM hst hna h8 hf hlen (fun r' n' M' h => by obtain ⟨rfl, rfl, rfl⟩ := h; exact kk)
theorem A_callS {idx na mcx msx r' : Nat} {md : MD} {as st0 : List AV} (hC : CX X b0 D cc own nL ret l rk mcR msR) (hd : decode cc pc = .ok (.invokestatic idx, 3)) (hmv : MSt md na) (hlk : Cond.methodLink own idx md.1 ∈ zG) (hr : r' < rk) (hM : AMet l md g r' mcx msx as n M post) (hst : as.reverse ++ st = st0) (hna : as.length = na) (h8 : st.length ≤ 8) (hf : kc + mcx ≤ mcR ∧ ks + msx ≤ msR) (hlen : la.length = nL)
    (kk : ∀ (r : Option AV) (n' : Nat) (M' : Mem), post r n' M' → AW X b0 D g (kc + mcx) (ks + msx) Q n' M' (pc + 3) la (r.toList ++ st)) : AW X b0 D g kc ks Q n M pc la st0 := by
  subst hst
  have hR := cx_R hC
  refine A_run (a0 := (as.map (fx_co b0)).toArray) (mcx := mcx) (msx := msx) (post := post) (st := st) (cx_0 hC) (fun H locs ls hs hm hW hL => ?_) (fun v hv => List.mem_append_right _ hv) kk
  have hM' := hM b0 D
  rw [← cx_l hC] at hM'
  refine va_runS (As := as.map (fx_co b0)) (rest := st.map (fx_co b0)) ⟨cx_x hC, cx_b hC, cx_ml hC, cx_o hC, cx_t hC⟩ hM' ⟨fx_cB hC hmv.2.2.1 hmv.2.1 hmv.2.2.2.1 hmv.2.2.2.2 hlk hr, cx_t hC _ hmv.1⟩ ⟨fx_blind, fun U hU hWm => ⟨rfl, by rw [hU]; exact hW, fx_KK.warm hWm (cx_kk hC), fun v hv => ?_, hm⟩⟩ rfl (by simpa using hna) (by rw [← hlen]; exact hL.1) (by simp [List.map_append]) (lv_room (by rw [fx_catS]; exact h8)) hd ⟨by omega, by omega⟩
  exact hs _ (List.mem_append_left _ (List.mem_reverse.mpr hv))
theorem A_SF {idx na r' : Nat} {md : MD} {as st0 : List AV} {r : Option AV} {M1 : Mem} (hC : CX X b0 D cc own nL ret l rk mcR msR) (hd : decode cc pc = .ok (.invokestatic idx, 3)) (hmv : MSt md na) (hlk : Cond.methodLink own idx md.1 ∈ zG) (hr : r' < rk) (hM : AF l md r' as n M r M1) (hst : as.reverse ++ st = st0) (hna : as.length = na) (h8 : st.length ≤ 8) (hf : kc ≤ mcR ∧ ks ≤ msR) (hlen : la.length = nL) (kk : AW X b0 D true kc ks Q n M1 (pc + 3) la (r.toList ++ st)) : AW X b0 D true kc ks Q n M pc la st0 := A_callS hC hd hmv hlk hr hM hst hna h8 hf hlen (fun r' n' M' h => by obtain ⟨rfl, rfl, rfl⟩ := h; exact kk)
theorem A_callSN {idx na mcx msx r' : Nat} {host : String} {md : MD} {as st0 : List AV} (hC : CX X b0 D cc own nL ret l rk mcR msR) (hd : decode cc pc = .ok (.invokestatic idx, 3)) (hmv : MSt md na) (hlk : (own, idx, md.1, host) ∈ fx_nest) (hr : r' < rk) (hM : AMet l md g r' mcx msx as n M post) (hst : as.reverse ++ st = st0) (hna : as.length = na) (h8 : st.length ≤ 8) (hf : kc + mcx ≤ mcR ∧ ks + msx ≤ msR) (hlen : la.length = nL)
    (kk : ∀ (r : Option AV) (n' : Nat) (M' : Mem), post r n' M' → AW X b0 D g (kc + mcx) (ks + msx) Q n' M' (pc + 3) la (r.toList ++ st)) : AW X b0 D g kc ks Q n M pc la st0 := by
  subst hst
  have hR := cx_R hC
  refine A_run (a0 := (as.map (fx_co b0)).toArray) (mcx := mcx) (msx := msx) (post := post) (st := st) (cx_0 hC) (fun H locs ls hs hm hW hL => ?_) (fun v hv => List.mem_append_right _ hv) kk
  have hM' := hM b0 D
  rw [← cx_l hC] at hM'
  refine va_runSN (As := as.map (fx_co b0)) (rest := st.map (fx_co b0)) ⟨cx_x hC, cx_b hC, cx_ml hC, cx_o hC, cx_t hC⟩ hM' ⟨fx_cN hC hmv.2.2.1 hmv.2.1 hmv.2.2.2.1 hmv.2.2.2.2 hlk hr, cx_t hC _ hmv.1, trivial⟩ ⟨fx_blind, fun U hU hWm => ⟨rfl, by rw [hU]; exact hW, fx_KK.warm hWm (cx_kk hC), fun v hv => ?_, hm⟩⟩ rfl (by simpa using hna) (by rw [← hlen]; exact hL.1) (by simp [List.map_append]) (lv_room (by rw [fx_catS]; exact h8)) hd ⟨by omega, by omega⟩
  exact hs _ (List.mem_append_left _ (List.mem_reverse.mpr hv))
theorem A_SNF {idx na r' : Nat} {host : String} {md : MD} {as st0 : List AV} {r : Option AV} {M1 : Mem} (hC : CX X b0 D cc own nL ret l rk mcR msR) (hd : decode cc pc = .ok (.invokestatic idx, 3)) (hmv : MSt md na) (hlk : (own, idx, md.1, host) ∈ fx_nest) (hr : r' < rk) (hM : AF l md r' as n M r M1) (hst : as.reverse ++ st = st0) (hna : as.length = na) (h8 : st.length ≤ 8) (hf : kc ≤ mcR ∧ ks ≤ msR) (hlen : la.length = nL) (kk : AW X b0 D true kc ks Q n M1 (pc + 3) la (r.toList ++ st)) : AW X b0 D true kc ks Q n M pc la st0 := A_callSN hC hd hmv hlk hr hM hst hna h8 hf hlen (fun r' n' M' h => by obtain ⟨rfl, rfl, rfl⟩ := h; exact kk)
theorem A_callI {idx na mcx msx r' : Nat} {md : MD} {as st0 : List AV} {c : Int} (hC : CX X b0 D cc own nL ret l rk mcR msR) (hd : decode cc pc = .ok (.invokespecial idx, 3)) (hmv : MV md na) (hlk : Cond.methodLink own idx md.1 ∈ zG) (hr : r' < rk) (hini : md.1.name = "<init>" ∧ md.2.2.2 = none) (hc : 0 ≤ c) (hM : AMet l md g r' mcx msx (.inr c :: as) n M post) (hst : as.reverse ++ .inr c :: st = st0) (hna : as.length = na) (h8 : st.length ≤ 8) (hf : kc + mcx ≤ mcR ∧ ks + msx ≤ msR) (hlen : la.length = nL)
    (kk : ∀ (r : Option AV) (n' : Nat) (M' : Mem), post r n' M' → AW X b0 D g (kc + mcx) (ks + msx) Q n' M' (pc + 3) la (r.toList ++ st)) : AW X b0 D g kc ks Q n M pc la st0 := by
  subst hst
  have hR := cx_R hC
  refine A_run (a0 := ((.inr c :: as).map (fx_co b0)).toArray) (mcx := mcx) (msx := msx) (post := post) (st := st) (cx_0 hC) (fun H locs ls hs hm hW hL => ?_) (fun v hv => List.mem_append_right _ (List.mem_cons_of_mem _ hv)) kk
  obtain ⟨c', rfl⟩ : ∃ c' : Nat, c = c' := ⟨c.toNat, by omega⟩
  have hcr : fx_co b0 (.inr (c' : Int)) = .ref (b0 + c') := by rw [fx_cr hc, Int.toNat_natCast]
  have hM' := hM b0 D
  rw [← cx_l hC] at hM'
  have hcw : (((.inr (c' : Int) :: as).map (fx_co b0)).toArray) = (Value.ref (b0 + c') :: as.map (fx_co b0)).toArray := by rw [List.map_cons, hcr]
  rw [hcw]
  obtain ⟨my, mb, mm, mr⟩ := md
  obtain ⟨h1, h2⟩ := hini
  dsimp only at h1 h2
  subst h2
  refine va_runI (As := as.map (fx_co b0)) (rest := st.map (fx_co b0)) ⟨cx_x hC, cx_b hC, cx_ml hC, cx_o hC, cx_t hC⟩ hM' ⟨fx_cB hC hmv.2.2.1 hmv.2.1 hmv.2.2.2.1 hmv.2.2.2.2 hlk hr, h1, cx_t hC _ hmv.1⟩ ⟨fx_blind, fun U hU hWm => ⟨by rw [List.map_cons, hcr], by rw [hU]; exact hW, fx_KK.warm hWm (cx_kk hC), fun v hv => ?_, hm⟩⟩ rfl (by simpa using hna) (by rw [← hlen]; exact hL.1) (by simp [List.map_append, hcr]) (lv_room (by rw [fx_catS]; exact h8)) hd ⟨by omega, by omega⟩
  rcases List.mem_cons.mp hv with rfl | hv
  · exact hs _ (List.mem_append_right _ List.mem_cons_self)
  · exact hs _ (List.mem_append_left _ (List.mem_reverse.mpr hv))
theorem A_callIN {idx na mcx msx r' : Nat} {host : String} {md : MD} {as st0 : List AV} {c : Int} (hC : CX X b0 D cc own nL ret l rk mcR msR) (hd : decode cc pc = .ok (.invokespecial idx, 3)) (hmv : MV md na) (hlk : (own, idx, md.1, host) ∈ fx_nest) (hr : r' < rk) (hini : md.1.name = "<init>" ∧ md.2.2.2 = none) (hc : 0 ≤ c) (hM : AMet l md g r' mcx msx (.inr c :: as) n M post) (hst : as.reverse ++ .inr c :: st = st0) (hna : as.length = na) (h8 : st.length ≤ 8) (hf : kc + mcx ≤ mcR ∧ ks + msx ≤ msR) (hlen : la.length = nL)
    (kk : ∀ (r : Option AV) (n' : Nat) (M' : Mem), post r n' M' → AW X b0 D g (kc + mcx) (ks + msx) Q n' M' (pc + 3) la (r.toList ++ st)) : AW X b0 D g kc ks Q n M pc la st0 := by
  subst hst
  have hR := cx_R hC
  refine A_run (a0 := ((.inr c :: as).map (fx_co b0)).toArray) (mcx := mcx) (msx := msx) (post := post) (st := st) (cx_0 hC) (fun H locs ls hs hm hW hL => ?_) (fun v hv => List.mem_append_right _ (List.mem_cons_of_mem _ hv)) kk
  obtain ⟨c', rfl⟩ : ∃ c' : Nat, c = c' := ⟨c.toNat, by omega⟩
  have hcr : fx_co b0 (.inr (c' : Int)) = .ref (b0 + c') := by rw [fx_cr hc, Int.toNat_natCast]
  have hM' := hM b0 D
  rw [← cx_l hC] at hM'
  have hcw : (((.inr (c' : Int) :: as).map (fx_co b0)).toArray) = (Value.ref (b0 + c') :: as.map (fx_co b0)).toArray := by rw [List.map_cons, hcr]
  rw [hcw]
  obtain ⟨my, mb, mm, mr⟩ := md
  obtain ⟨h1, h2⟩ := hini
  dsimp only at h1 h2
  subst h2
  refine va_runIN (As := as.map (fx_co b0)) (rest := st.map (fx_co b0)) ⟨cx_x hC, cx_b hC, cx_ml hC, cx_o hC, cx_t hC⟩ hM' ⟨fx_cN hC hmv.2.2.1 hmv.2.1 hmv.2.2.2.1 hmv.2.2.2.2 hlk hr, h1, cx_t hC _ hmv.1⟩ ⟨fx_blind, fun U hU hWm => ⟨by rw [List.map_cons, hcr], by rw [hU]; exact hW, fx_KK.warm hWm (cx_kk hC), fun v hv => ?_, hm⟩⟩ rfl (by simpa using hna) (by rw [← hlen]; exact hL.1) (by simp [List.map_append, hcr]) (lv_room (by rw [fx_catS]; exact h8)) hd ⟨by omega, by omega⟩
  rcases List.mem_cons.mp hv with rfl | hv
  · exact hs _ (List.mem_append_right _ List.mem_cons_self)
  · exact hs _ (List.mem_append_left _ (List.mem_reverse.mpr hv))
end ROWS2
