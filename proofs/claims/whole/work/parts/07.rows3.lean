/-! ROWS of the abstract machine, third part. -/
section ROWS3
variable {X : Cx} {b0 : Nat} {D : DD} {g : Bool} {kc ks : Nat} {Q : State → Prop} {n : Nat} {M : Mem} {pc : Nat} {la : List (Option AV)} {st : List AV} {cc : ByteArray} {own : String} {nL : Nat} {ret : Option FieldType} {l : Launch} {rk mcR msR : Nat} {mc ms : Nat} {post : Option AV → Nat → Mem → Prop}
theorem A_objInit {idx : Nat} {c : Int} (hC : CX X b0 D cc own nL ret l rk mcR msR) (hd : decode cc pc = .ok (.invokespecial idx, 3)) (h1 : Cond.methodLink own idx Lib.objectInit ∈ zG) (h2 : Cond.instanceMethod Lib.objectInit ∈ zG) (h3 : Cond.code Lib.objectInit ⟨#[0xb1]⟩ 1 none ∈ zG) (hc : 0 ≤ c) (hf : 1 ≤ rk) (h8 : st.length ≤ 8) (hlen : la.length = nL) (kk : AW X b0 D g kc ks Q n M (pc + 3) la st) : AW X b0 D g kc ks Q n M pc la (.inr c :: st) := by
  intro hs hl hm H locs ls hW hS hL
  rw [List.map_cons, fx_cr hc]
  have hR0 := (cx_R hC)
  exact W.objInit (cx_x hC) (cx_b hC) (cx_o hC) ((cx_t hC) _ h1) ((cx_t hC) _ h2) ((cx_t hC) _ h3) rfl (by rw [(cx_ml hC), ← hlen]; exact hL.1) rfl hd (by omega) (by rw [fx_catS]; show 2 * 0 + _ + 12 ≤ _; omega) (kk (fx_St hs) hl hm H locs ls hW hS hL)
-- ===== new cells
def fx_rd (c : Int) (k : Int) : Bool := if (fx_ly c).1 = 102 then true else if (fx_ly c).1 < 100 then fx_isr (fx_ly c).1 k.toNat else false
def nw (M : Mem) (c : Int) : Mem := fun c' k => if c' = c then (if fx_rd c k = true then -1 else 0) else M c' k
theorem nw_ne {c c' k : Int} (h : c' ≠ c) : nw M c c' k = M c' k := by unfold nw; rw [if_neg h]
theorem fx_okM_nw {c : Int} (hg : g = false) (h : fx_okM g M) : fx_okM g (nw M c) := by
  refine ⟨fun c' k => ?_, fun e => by rw [hg] at e; cases e⟩
  unfold nw
  split
  · split <;> decide
  · exact h.1 c' k
theorem fx_pushed {H H1 H0 : Heap} {locs : List Loc} (hW : Wd b0 D n M H) (hS : va_S (fun q => b0 ≤ q) H0 H locs) (he : va_at D.1 vwCl (b0 + n, fx_en b0 D.2 (nw M n) n) H1) (z : H1.size = H.size + 1) (oq : ∀ q : Nat, q < H.size → H1[q]? = H[q]?) : Wd b0 D (n + 1) (nw M n) H1 ∧ va_S (fun q => b0 ≤ q) H0 H1 locs := by
  refine ⟨⟨by rw [z, hW.1]; omega, ?_⟩, Nat.le_trans hS.1 (by omega), fun q h1 h2 => by rw [oq q (Nat.lt_of_lt_of_le h1 hS.1)]; exact hS.2.1 q h1 h2, hS.2.2⟩
  have e1 : fx_wl b0 D.2 (n + 1) (nw M n) = fx_wl b0 D.2 n M ++ [(b0 + n, fx_en b0 D.2 (nw M n) n)] := by
    simp only [fx_wl, List.range_succ, List.map_append, List.map_cons, List.map_nil]
    congr 1
    apply List.map_congr_left
    intro d hd
    have hd := List.mem_range.mp hd
    have e : ∀ j : Int, nw M n d j = M d j := fun j => nw_ne (by omega)
    simp only [fx_en, fx_fs, e]
  rw [e1]
  refine (hW.2.kept (fun k q hk => oq q.1 (hW.2 k q hk).lt)).app (fun k q hk => ?_)
  have hz : k < 1 := (List.getElem?_eq_some_iff.mp hk).1
  rw [show k = 0 by omega] at hk
  cases hk
  exact he
def fx_N (own : String) (idx ci N : Nat) : Prop := ∃ (Cn : String) (T : u_T) (ty0 : Nat → FieldType), vwCl[ci]? = some (Cn, T, N) ∧ (∀ w ∈ u_ws Cn T N, w ∈ zG) ∧ (∀ k, k < N → parseFieldDescriptor (T k).2.2.1 = some (ty0 k)) ∧ Cond.classLink own idx Cn ∈ zG ∧ Cond.instantiable Cn N ∈ zG ∧ Cond.initialized Cn ∈ zG ∧ ∀ k, k < N → defaultValue (ty0 k) = if fx_isr ci k = true then .null else .int 0
theorem A_new {idx ci N : Nat} (hC : CX X b0 D cc own nL ret l rk mcR msR) (hd : decode cc pc = .ok (.new idx, 3)) (hN : fx_N own idx ci N) (h100 : ci < 100) (hly : fx_ly n = (ci, N)) (hn : n < 2147483648) (hg : g = false) (h1 : kc + 1 ≤ mcR) (h2 : ks + N ≤ msR) (kk : AW X b0 D g (kc + 1) (ks + N) Q (n + 1) (nw M n) (pc + 3) la (.inr n :: st)) : AW X b0 D g kc ks Q n M pc la st := by
  intro hs hl hm H locs ls hW hS hL
  obtain ⟨Cn, T, ty0, hq, hin, hty, g1, g2, g3, hdf⟩ := hN
  have hts := (cx_t hC)
  have hR0 := (cx_R hC)
  have hKn := (cx_k hC).1 ci _ hq
  refine W.newcK (cx_x hC) (cx_b hC) (cx_o hC) (hts _ g1) (hts _ g2) (hts _ g3) rfl hd (by omega) (by omega) hKn.2.1 hW.1 fun H1 kC hkC e1 z1 o1 => ?_
  obtain ⟨a1, a2⟩ := fx_pushed hW hS (H1 := H1) (by
    rw [fx_en_o hly h100]
    refine ⟨_, hq, (u_born ty0 hts hin hKn hkC e1 hty).to (fun j hj => ?_)⟩
    rw [hdf j hj]
    show _ = (fx_fs b0 ci N (nw M n) n).getD j .null
    rw [List.getD_eq_getElem?_getD, fx_fs_at hj]
    show _ = fx_co b0 (fx_fv ci j (nw M n n j))
    have e : nw M n n j = if fx_isr ci j = true then -1 else 0 := by
      unfold nw fx_rd
      rw [if_pos rfl, hly]
      simp only [show ¬ ci = 102 by omega, h100, if_true, if_false, Int.toNat_natCast]
    rw [e]
    unfold fx_fv
    cases fx_isr ci j <;> rfl) (by rw [z1, hW.1]) (fun q hq => o1 q (by rw [← hW.1]; exact hq))
  have k2 := kk (fx_Sc (v := .inr (n : Int)) (by show rg _; simp only [fx_v]; omega) hs) hl (fx_okM_nw hg hm) H1 locs ls a1 a2 hL
  rw [List.map_cons, fx_cr (by omega), Int.toNat_natCast] at k2
  exact k2
/-- a new array of ints (ty 100) or of booleans (101) -/
theorem A_newa {atype : ArrayType} {ty N t0 : Nat} {fty : FieldType} (hC : CX X b0 D cc own nL ret l rk mcR msR) (hd : decode cc pc = .ok (.newarray atype, 2)) (hw : Cond.arrayClass fty ∈ zG) (hat : newarray.typeOf atype = fty) (hty : (ty = 100 ∧ t0 = 0 ∧ fty = .int) ∨ (ty = 101 ∧ t0 = 1 ∧ fty = .boolean)) (hly : fx_ly n = (ty, N)) (hN : N < 100000) (hn : n < 2147483648) (hg : g = false) (h1 : kc + 1 ≤ mcR) (h2 : ks + N ≤ msR) (kk : AW X b0 D g (kc + 1) (ks + N) Q (n + 1) (nw M n) (pc + 2) la (.inr n :: st)) : AW X b0 D g kc ks Q n M pc la (.inl N :: st) := by
  intro hs hl hm H locs ls hW hS hL
  have hts := (cx_t hC)
  have hR0 := (cx_R hC)
  have hrN : rg (N : Int) := by omega
  have hcl : (Int32.ofInt (N : Int)).toNatClampNeg = N := by rw [fx_clamp hrN]; omega
  refine va_newaK (cx_x hC) (cx_b hC) (by rw [hat]; exact hts _ hw) rfl hd (n := Int32.ofInt N) rfl (by rw [fx_lt0 hrN]; omega) hcl (by rw [hat]; rcases hty with ⟨-, -, rfl⟩ | ⟨-, -, rfl⟩ <;> simp only [componentBytes] <;> omega) (by omega) (by omega) hW.1 fun H1 cA e1 z1 o1 hAr hNm => ?_
  rw [hat] at e1 hNm
  have hz : ∀ j : Nat, nw M n n j = 0 := fun j => by
    unfold nw fx_rd
    rw [if_pos rfl, hly]
    rcases hty with ⟨rfl, -, -⟩ | ⟨rfl, -, -⟩ <;> simp
  have hk2 := ((cx_k hC).2 t0 (D.2 t0, fty) (by rcases hty with ⟨-, rfl, rfl⟩ | ⟨-, rfl, rfl⟩ <;> rfl)).2
  have hcA : cA = D.2 t0 := by
    rcases hty with ⟨-, rfl, rfl⟩ | ⟨-, rfl, rfl⟩ <;> exact Option.some.inj (hNm.symm.trans hk2)
  subst hcA
  obtain ⟨a1, a2⟩ := fx_pushed hW hS (H1 := H1) (by
    rcases hty with ⟨rfl, rfl, rfl⟩ | ⟨rfl, rfl, rfl⟩
    · rw [fx_en_i hly]
      show H1[b0 + n]? = some (vp_cell _ _)
      rw [e1, vp_cell_i]
      simp only [hz]
      rfl
    · rw [fx_en_z hly]
      show H1[b0 + n]? = some (vp_cell _ _)
      rw [e1, vp_cell_i]
      simp only [hz]
      rfl) (by rw [z1, hW.1]) (fun q hq => o1 q (by rw [← hW.1]; exact hq))
  have k2 := kk (fx_Sc (v := .inr (n : Int)) (by show rg _; simp only [fx_v]; omega) (fx_St hs)) hl (fx_okM_nw hg hm) H1 locs ls a1 a2 hL
  rw [List.map_cons, fx_cr (by omega), Int.toNat_natCast] at k2
  exact k2
theorem A_newq {idx N : Nat} (hC : CX X b0 D cc own nL ret l rk mcR msR) (hd : decode cc pc = .ok (.anewarray idx, 3)) (hw : Cond.classLink own idx fx_elem ∈ zG) (hly : fx_ly n = (102, N)) (hN : N < 100000) (hn : n < 2147483648) (hg : g = false) (h1 : kc + 1 ≤ mcR) (h2 : ks + N ≤ msR) (kk : AW X b0 D g (kc + 1) (ks + N) Q (n + 1) (nw M n) (pc + 3) la (.inr n :: st)) : AW X b0 D g kc ks Q n M pc la (.inl N :: st) := by
  intro hs hl hm H locs ls hW hS hL
  have hR0 := cx_R hC
  have hrN : rg (N : Int) := by omega
  have hcl : (Int32.ofInt (N : Int)).toNatClampNeg = N := by rw [fx_clamp hrN]; omega
  refine W.anew (cx_x hC) (cx_b hC) (cx_o hC) (cx_t hC _ hw) (va_AO.use (cx_kk hC).2.1) rfl hd (n := Int32.ofInt N) rfl (by rw [fx_lt0 hrN]; omega) (by rw [hcl]; omega) (by omega) (by rw [hcl]; omega) fun cA kA comp f1 f2 f3 f4 => ?_
  rw [hcl]
  have hz : ∀ j : Nat, nw M n n j = -1 := fun j => by
    unfold nw fx_rd
    rw [if_pos rfl, hly]
    simp
  obtain ⟨_, _, _, _, _, hk2⟩ := ((cx_k hC).2 2 (D.2 2, .object fx_elem) rfl).2
  have hcA : cA = D.2 2 := Option.some.inj (f1.symm.trans hk2)
  subst hcA
  obtain ⟨a1, a2⟩ := fx_pushed hW hS (H1 := H.push { cls := D.2 2, slots := Array.replicate N .null, vm := .none }) (by
    rw [fx_en_q hly]
    show (H.push _)[b0 + n]? = some (vp_cell _ _)
    rw [← hW.1, Array.getElem?_push_size, vp_cell_q, arrV_new]
    simp only [hz]
    rfl) (by rw [Array.size_push]) (fun q hq => by rw [Array.getElem?_push, if_neg (Nat.ne_of_lt hq)])
  have k2 := kk (fx_Sc (v := .inr (n : Int)) (by show rg _; simp only [fx_v]; omega) (fx_St hs)) hl (fx_okM_nw hg hm) _ locs ls a1 a2 hL
  rw [List.map_cons, fx_cr (by omega), Int.toNat_natCast, ← hW.1] at k2
  exact k2
/-- an array of steps gets a step (while the system is being built) -/
theorem A_aast {N N2 : Nat} {c i x : Int} (hC : CX X b0 D cc own nL ret l rk mcR msR) (hd : decode cc pc = .ok (.aastore, 1)) (hly : fx_ly c = (102, N)) (hc : 0 ≤ c ∧ c < n) (hi : 0 ≤ i ∧ i < N) (hx : 0 ≤ x ∧ x < n) (hlx : fx_ly x = (5, N2)) (hu : g = true → fx_kk 102 i = false) (kk : AW X b0 D g kc ks Q n (up M c i x) (pc + 1) la st) : AW X b0 D g kc ks Q n M pc la (.inr x :: .inl i :: .inr c :: st) := by
  intro hs hl hm H locs ls hW hS hL
  obtain ⟨c', rfl⟩ : ∃ c' : Nat, c = c' := ⟨c.toNat, by omega⟩
  obtain ⟨x', rfl⟩ : ∃ x' : Nat, x = x' := ⟨x.toNat, by omega⟩
  rw [List.map_cons, List.map_cons, List.map_cons, fx_cr hc.1, fx_cr hx.1, Int.toNat_natCast, Int.toNat_natCast]
  have hcn : c' < n := by omega
  have hat := fx_wl_at (b0 := b0) (cA := D.2) (M := M) hcn
  rw [fx_en_q hly] at hat
  have hax := fx_wl_at (b0 := b0) (cA := D.2) (M := M) (show x' < n by omega)
  rw [fx_en_o hlx (by decide)] at hax
  have hri : rg i := fx_S1 (fx_St hs)
  have h5 : ¬ Int32.ofInt i < 0 := by rw [fx_lt0 hri]; omega
  have h6 : (Int32.ofInt i).toNatClampNeg < N := by rw [fx_clamp hri]; omega
  obtain ⟨r', hr', cellV, g1, g2, g3, -⟩ := hW.2 x' _ hax
  have hcls := ((cx_k hC).1 5 (R_St, T_St, 11) rfl).2
  obtain ⟨kA, comp, k1, k2, k3, -⟩ := ((cx_k hC).2 2 (D.2 2, .object fx_elem) rfl).2
  have hcomp : comp = D.1.1 5 := Option.some.inj (k3.symm.trans hcls.1)
  subst hcomp
  obtain ⟨kC, hkC, -⟩ := hcls.2
  refine W.aast (cx_x hC) (cx_b hC) (j := Int32.ofInt i) (hW.2 c' _ hat) (fun q h => by cases h) (fun h => by cases h) k1 k2 rfl hkC ⟨h5, by show _ < (arrV _ _ _).slots.size; rw [arrV_size]; exact h6⟩ g1 (fun q h => by rw [g3] at h; cases h) (by rw [g2]; exact hkC) (by rw [g2]; exact va_assign hcls) rfl rfl hd fun H1 e z oq => ?_
  obtain ⟨a1, a2⟩ := fx_stored (M' := up M c' i x') hW hS hcn (by
    rw [fx_en_q hly]
    show H1[b0 + c']? = some (vp_cell _ _)
    rw [e, vp_cell_q, vp_cell_q, arrV_store, fx_clamp hri]
    congr 2
    funext q
    unfold updV up
    by_cases h : q = i.toNat
    · rw [if_pos h, if_pos ⟨rfl, by omega⟩, fx_rs (by omega), Int.toNat_natCast]
      rfl
    · rw [if_neg h, if_neg (by rintro ⟨-, e⟩; omega)]) z oq (fun d hd => fx_en_up (by omega)) (Int32.ofInt i).toNatClampNeg
  exact kk (fx_St (fx_St (fx_St hs))) hl (fx_okM_up hm (fx_S1 hs) (by rw [hly]; exact hu)) H1 _ ls a1 a2 hL
end ROWS3
