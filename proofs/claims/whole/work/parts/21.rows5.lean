section ROWS5
variable {X : Cx} {b0 : Nat} {D : DD} {g : Bool} {kc ks : Nat} {Q : State → Prop} {n : Nat} {M : Mem} {pc : Nat} {la : List (Option AV)} {st : List AV} {cc : ByteArray} {own : String} {nL : Nat} {ret : Option FieldType} {l : Launch} {rk mcR msR : Nat}
theorem A_idiv {i j : Int} (hC : CX X b0 D cc own nL ret l rk mcR msR) (hd : decode cc pc = .ok (.idiv, 1)) (hi : 0 ≤ i) (hj : 0 < j) (k : AW X b0 D g kc ks Q n M (pc + 1) la (.inl (i / j) :: st)) : AW X b0 D g kc ks Q n M pc la (.inl j :: .inl i :: st) := by
  intro hs hl hm H locs ls hW hS hL
  have hj' : rg j := fx_S1 hs
  have hi' : rg i := fx_S1 (fx_St hs)
  have h1 : 0 ≤ i / j := Int.ediv_nonneg hi (by omega)
  have h2 : i / j ≤ i := Int.ediv_le_self j hi
  have hr : rg (i / j) := ⟨by omega, by omega⟩
  have e : Int32.ofInt i / Int32.ofInt j = Int32.ofInt (i / j) := by
    rw [← Int32.toInt_inj, Int32.toInt_div_of_ne_left, fx_toI hi', fx_toI hj', fx_toI hr, Int.tdiv_eq_ediv_of_nonneg hi]
    intro q
    have := congrArg Int32.toInt q
    rw [fx_toI hi'] at this
    have h3 : Int32.minValue.toInt = -2147483648 := by decide
    omega
  have kk : WX X H locs kc ks Q (F0 (xm X) (pc + 1) ls (.int (Int32.ofInt (i / j)) :: st.map (fx_co b0))) := k (fx_Sc hr (fx_St (fx_St hs))) hl hm H locs ls hW hS hL
  rw [← e] at kk
  exact lv_idiv (cx_x hC) (cx_b hC) hd (fun q => by rw [fx_eq0 hj'] at q; omega) kk
theorem fx_and {i : Int} (m : Int) (k : Nat) (hk : k ≤ 31) (hm : (Int32.ofInt m).toBitVec.toNat = 2 ^ k - 1) : Int32.ofInt i &&& Int32.ofInt m = Int32.ofInt (i % (2 ^ k : Nat)) := by
  rw [pk_and _ k hm, Int32.toBitVec_ofInt, BitVec.toNat_ofInt]
  show Int32.ofNat _ = _
  rw [← Int32.ofInt_eq_ofNat]
  congr 1
  have hd : ((2 : Nat) ^ k) ∣ 2 ^ 32 := Nat.pow_dvd_pow 2 (by omega)
  have hp : (0 : Int) < ((2 ^ 32 : Nat) : Int) := by decide
  have h0 := Int.emod_nonneg i (show ((2 ^ 32 : Nat) : Int) ≠ 0 by decide)
  rw [Int.natCast_emod, Int.toNat_of_nonneg h0]
  exact Int.emod_emod_of_dvd i (Int.natCast_dvd_natCast.mpr hd)
theorem A_iand3 {i : Int} (hC : CX X b0 D cc own nL ret l rk mcR msR) (hd : decode cc pc = .ok (.iand, 1)) (k : AW X b0 D g kc ks Q n M (pc + 1) la (.inl (i % 4) :: st)) : AW X b0 D g kc ks Q n M pc la (.inl 3 :: .inl i :: st) := by
  intro hs hl hm H locs ls hW hS hL
  have kk : WX X H locs kc ks Q (F0 (xm X) (pc + 1) ls (.int (Int32.ofInt (i % 4)) :: st.map (fx_co b0))) := k (fx_Sc (by show rg _; simp only [fx_v]; omega) (fx_St (fx_St hs))) hl hm H locs ls hW hS hL
  have e := fx_and (i := i) 3 2 (by decide) (by decide)
  have e2 : ((2 ^ 2 : Nat) : Int) = 4 := by decide
  rw [e2] at e
  rw [← e] at kk
  exact lv_iand (cx_x hC) (cx_b hC) hd kk
theorem A_iand15 {i : Int} (hC : CX X b0 D cc own nL ret l rk mcR msR) (hd : decode cc pc = .ok (.iand, 1)) (k : AW X b0 D g kc ks Q n M (pc + 1) la (.inl (i % 16) :: st)) : AW X b0 D g kc ks Q n M pc la (.inl 15 :: .inl i :: st) := by
  intro hs hl hm H locs ls hW hS hL
  have kk : WX X H locs kc ks Q (F0 (xm X) (pc + 1) ls (.int (Int32.ofInt (i % 16)) :: st.map (fx_co b0))) := k (fx_Sc (by show rg _; simp only [fx_v]; omega) (fx_St (fx_St hs))) hl hm H locs ls hW hS hL
  have e := fx_and (i := i) 15 4 (by decide) (by decide)
  have e2 : ((2 ^ 4 : Nat) : Int) = 16 := by decide
  rw [e2] at e
  rw [← e] at kk
  exact lv_iand (cx_x hC) (cx_b hC) hd kk
/-- a method that makes nothing, with its answer and what holds of the cells behind it -/
def AR (l : Launch) (md : MD) (rk : Nat) (as : List AV) (n : Nat) (M : Mem) (r : Option AV) (P : Mem → Prop) : Prop := AMet l md true rk 0 0 as n M (fun r' n' M' => r' = r ∧ n' = n ∧ P M')
theorem A_VR1 {idx na r' : Nat} {md : MD} {as st0 : List AV} {c : Int} {v : AV} {P : Mem → Prop} (hC : CX X b0 D cc own nL ret l rk mcR msR) (hd : decode cc pc = .ok (.invokevirtual idx, 3)) (hmv : MV md na) (hlk : Cond.methodLink own idx md.1 ∈ zG) (hr : r' < rk) (hsel : Cond.selects md.1.cls md.1 md.1 ∈ zG) {ci N : Nat} {T : u_T} (hq : vwCl[ci]? = some (md.1.cls, T, N) ∧ ci < 100) (hly : fx_ly c = (ci, N)) (hc : 0 ≤ c ∧ c < n) (hM : AR l md r' (.inr c :: as) n M (some v) P) (hst : as.reverse ++ .inr c :: st = st0) (hna : as.length = na) (h8 : st.length ≤ 8) (hf : kc ≤ mcR ∧ ks ≤ msR) (hlen : la.length = nL) (kk : ∀ M1 : Mem, P M1 → AW X b0 D true kc ks Q n M1 (pc + 3) la (v :: st)) : AW X b0 D true kc ks Q n M pc la st0 := A_callV hC hd hmv hlk hr hsel hq hly hc hM hst hna h8 hf hlen (fun r' n' M' h => by obtain ⟨rfl, rfl, h⟩ := h; exact kk M' h)
theorem A_VR0 {idx na r' : Nat} {md : MD} {as st0 : List AV} {c : Int} {P : Mem → Prop} (hC : CX X b0 D cc own nL ret l rk mcR msR) (hd : decode cc pc = .ok (.invokevirtual idx, 3)) (hmv : MV md na) (hlk : Cond.methodLink own idx md.1 ∈ zG) (hr : r' < rk) (hsel : Cond.selects md.1.cls md.1 md.1 ∈ zG) {ci N : Nat} {T : u_T} (hq : vwCl[ci]? = some (md.1.cls, T, N) ∧ ci < 100) (hly : fx_ly c = (ci, N)) (hc : 0 ≤ c ∧ c < n) (hM : AR l md r' (.inr c :: as) n M none P) (hst : as.reverse ++ .inr c :: st = st0) (hna : as.length = na) (h8 : st.length ≤ 8) (hf : kc ≤ mcR ∧ ks ≤ msR) (hlen : la.length = nL) (kk : ∀ M1 : Mem, P M1 → AW X b0 D true kc ks Q n M1 (pc + 3) la st) : AW X b0 D true kc ks Q n M pc la st0 := A_callV hC hd hmv hlk hr hsel hq hly hc hM hst hna h8 hf hlen (fun r' n' M' h => by obtain ⟨rfl, rfl, h⟩ := h; exact kk M' h)
end ROWS5
