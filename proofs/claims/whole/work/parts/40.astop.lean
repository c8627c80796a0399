section AX
variable {X : Cx} {b0 : Nat} {D : DD} {kc ks : Nat} {Q : State → Prop} {n : Nat} {M : Mem} {pc : Nat} {la : List (Option AV)} {st : List AV} {cc : ByteArray} {own : String} {nL : Nat} {ret : Option FieldType} {l : Launch} {rk mcR msR : Nat}
/-- a method that makes nothing, with what holds of its answer and of the cells behind it -/
def AX (l : Launch) (md : MD) (rk : Nat) (as : List AV) (n : Nat) (M : Mem) (P : Int → Mem → Prop) : Prop := AMet l md true rk 0 0 as n M (fun r' n' M' => n' = n ∧ ∃ v : Int, r' = some (.inl v) ∧ P v M')
def AY (l : Launch) (md : MD) (rk : Nat) (as : List AV) (n : Nat) (M : Mem) (P : Int → Mem → Prop) : Prop := AMet l md true rk 0 0 as n M (fun r' n' M' => n' = n ∧ ∃ v : Int, r' = some (.inr v) ∧ P v M')
theorem A_VX {idx na r' : Nat} {md : MD} {as st0 : List AV} {c : Int} {P : Int → Mem → Prop} (hC : CX X b0 D cc own nL ret l rk mcR msR) (hd : decode cc pc = .ok (.invokevirtual idx, 3)) (hmv : MV md na) (hlk : Cond.methodLink own idx md.1 ∈ zG) (hr : r' < rk) (hsel : Cond.selects md.1.cls md.1 md.1 ∈ zG) {ci N : Nat} {T : u_T} (hq : vwCl[ci]? = some (md.1.cls, T, N) ∧ ci < 100) (hly : fx_ly c = (ci, N)) (hc : 0 ≤ c ∧ c < n) (hM : AX l md r' (.inr c :: as) n M P) (hst : as.reverse ++ .inr c :: st = st0) (hna : as.length = na) (h8 : st.length ≤ 8) (hf : kc ≤ mcR ∧ ks ≤ msR) (hlen : la.length = nL) (kk : ∀ (v : Int) (M1 : Mem), P v M1 → AW X b0 D true kc ks Q n M1 (pc + 3) la (.inl v :: st)) : AW X b0 D true kc ks Q n M pc la st0 := A_callV hC hd hmv hlk hr hsel hq hly hc hM hst hna h8 hf hlen (fun r' n' M' h => by obtain ⟨rfl, v, rfl, h⟩ := h; exact kk v M' h)
theorem A_VY {idx na r' : Nat} {md : MD} {as st0 : List AV} {c : Int} {P : Int → Mem → Prop} (hC : CX X b0 D cc own nL ret l rk mcR msR) (hd : decode cc pc = .ok (.invokevirtual idx, 3)) (hmv : MV md na) (hlk : Cond.methodLink own idx md.1 ∈ zG) (hr : r' < rk) (hsel : Cond.selects md.1.cls md.1 md.1 ∈ zG) {ci N : Nat} {T : u_T} (hq : vwCl[ci]? = some (md.1.cls, T, N) ∧ ci < 100) (hly : fx_ly c = (ci, N)) (hc : 0 ≤ c ∧ c < n) (hM : AY l md r' (.inr c :: as) n M P) (hst : as.reverse ++ .inr c :: st = st0) (hna : as.length = na) (h8 : st.length ≤ 8) (hf : kc ≤ mcR ∧ ks ≤ msR) (hlen : la.length = nL) (kk : ∀ (v : Int) (M1 : Mem), P v M1 → AW X b0 D true kc ks Q n M1 (pc + 3) la (.inr v :: st)) : AW X b0 D true kc ks Q n M pc la st0 := A_callV hC hd hmv hlk hr hsel hq hly hc hM hst hna h8 hf hlen (fun r' n' M' h => by obtain ⟨rfl, v, rfl, h⟩ := h; exact kk v M' h)
end AX
-- ===== Asking when the work was stopped
def STP (M : Mem) (x : Int) (here : List Int) : Prop := (M 81 6 = x ∧ x ≠ 0) ∧ COD M ∧ 0 ≤ M 83 4 ∧ M 83 3 = (here.length : Int) ∧ (here.length : Int) ≤ 26
def f0 (M M' : Mem) : Prop := ∀ c y : Int, (c < 81 ∨ 87 < c) → M' c y = M c y
def ROW (B : Mem) : Prop := (∀ i : Int, -1 ≤ B 8 i ∧ B 8 i ≤ 999) ∧ (∀ i : Int, 0 ≤ B 9 i ∧ B 9 i ≤ 4) ∧ (∀ i j : Int, 0 ≤ i → i < 48 → 0 ≤ j → j < B 9 i → 1 ≤ B 10 (i * 4 + j) ∧ B 10 (i * 4 + j) ≤ 12) ∧ ∀ i : Int, 0 ≤ B 7 i ∧ B 7 i ≤ 4
theorem f0_r {M : Mem} : f0 M M := fun _ _ _ => rfl
theorem f0_t {M M' M'' : Mem} (h : f0 M M') (h' : f0 M' M'') : f0 M M'' := fun c y hc => by rw [h' c y hc, h c y hc]
theorem ff_0 {B M M' : Mem} {sets : List Int} (h : f0 M M') : ff B sets M M' := fun c y hc _ => h c y hc
theorem f0_ad {M : Mem} {x : Int} : f0 M (adC M x) := fun c y hc => adC_n (by omega) (by omega)
theorem f0_up {M : Mem} {c k v : Int} (h : 81 ≤ c ∧ c ≤ 87) : f0 M (up M c k v) := fun c y hc => up_nc (by omega)
theorem f0_in {M : Mem} {p : Int} : f0 M (goI M p) := fun c y hc => by
  unfold goI
  split
  · rw [up_nc (by omega), up_nc (by omega)]
  · rfl
theorem f0_out {M : Mem} : f0 M (goO M) := fun c y hc => by unfold goO; rw [up_nc (by omega)]
theorem f0_nt {M : Mem} : f0 M (ntH M) := fun c y hc => by
  unfold ntH
  split
  · rw [up_nc (by omega), up_nc (by omega), cpy_nc (by omega)]
  · rfl
theorem f0_no {M : Mem} {e : Int} : f0 M (noM M e) := by
  unfold noM
  split
  · exact f0_ad
  · exact f0_t f0_ad f0_nt
theorem STP_ad {M : Mem} {x c : Int} {here : List Int} (h : STP M x here) : adC M c = M := by
  unfold adC
  rw [if_pos]
  have := h.1
  omega
theorem STP_in {M : Mem} {x p : Int} {here : List Int} (h : STP M x here) (hl : here.length < 26) : STP (goI M p) x (here ++ [p]) := by
  obtain ⟨h1, ⟨h2, h2', h2''⟩, h3, h4, h5⟩ := h
  unfold goI
  rw [if_pos (by omega)]
  refine ⟨⟨by rw [up_nc (by decide), up_nc (by decide)]; exact h1.1, h1.2⟩, ⟨?_, ?_, ?_⟩, ?_, ?_, ?_⟩
  · rw [up_nc (by decide), up_nc (by decide)]; exact h2
  · rw [up_nc (by decide), up_nc (by decide), up_nc (by decide), up_nc (by decide)]; exact h2'
  · rw [up_nc (by decide), up_nc (by decide)]; exact h2''
  · rw [up_nk (by decide), up_nc (by decide)]; exact h3
  · rw [up_eq, h4]; simp
  · simp; omega
theorem STP_out {M : Mem} {x p : Int} {here : List Int} (h : STP M x (here ++ [p])) : STP (goO M) x here := by
  obtain ⟨h1, ⟨h2, h2', h2''⟩, h3, h4, h5⟩ := h
  simp only [List.length_append, List.length_cons, List.length_nil] at h4 h5
  unfold goO
  refine ⟨⟨by rw [up_nc (by decide)]; exact h1.1, h1.2⟩, ⟨?_, ?_, ?_⟩, ?_, ?_, ?_⟩
  · rw [up_nc (by decide)]; exact h2
  · rw [up_nc (by decide), up_nc (by decide)]; exact h2'
  · rw [up_nc (by decide)]; exact h2''
  · rw [up_nk (by decide)]; exact h3
  · rw [up_eq]; split <;> omega
  · omega
theorem STP_nt {M : Mem} {x : Int} {here : List Int} (h : STP M x here) : STP (ntH M) x here := by
  obtain ⟨h1, ⟨h2, h2', h2''⟩, h3, h4, h5⟩ := h
  unfold ntH
  split
  · refine ⟨⟨?_, h1.2⟩, ⟨?_, ?_, ?_⟩, ?_, ?_, h5⟩
    · rw [up_nc (by decide), up_nc (by decide), cpy_nc (by decide)]; exact h1.1
    · rw [up_nc (by decide), up_nc (by decide), cpy_nc (by decide)]; exact h2
    · rw [up_nc (by decide), up_nc (by decide), cpy_nc (by decide), up_nc (by decide), up_nc (by decide), cpy_nc (by decide)]; exact h2'
    · rw [up_nc (by decide), up_nc (by decide), cpy_nc (by decide)]; exact h2''
    · rw [up_eq]; omega
    · rw [up_nk (by decide), up_nc (by decide), cpy_nc (by decide)]; exact h4
  · exact ⟨h1, ⟨h2, h2', h2''⟩, h3, h4, h5⟩
theorem STP_no {M : Mem} {x e : Int} {here : List Int} (h : STP M x here) : STP (noM M e) x here := by
  unfold noM
  rw [STP_ad h]
  split
  · exact h
  · exact STP_nt h
theorem STP_b {M : Mem} {x : Int} {here : List Int} (h : STP M x here) : ¬ M 81 6 = 0 ∧ COD M ∧ 0 ≤ M 83 4 ∧ (0 ≤ M 83 3 ∧ M 83 3 ≤ 26) := by
  obtain ⟨h1, h2, h3, h4, h5⟩ := h
  exact ⟨by omega, h2, h3, by omega⟩
theorem ASt_b {M : Mem} {s : SA} {here : List Int} (h : ASt M s here) : M 81 6 = 0 ∧ COD M ∧ 0 ≤ M 83 4 ∧ (0 ≤ M 83 3 ∧ M 83 3 ≤ 26) := by
  obtain ⟨⟨a1, a2, a3⟩, ⟨b1, b2⟩, c1, ⟨d1, d2, d3⟩, e1, e2, e3⟩ := h
  exact ⟨c1, ⟨by omega, by omega, by omega⟩, by omega, by omega⟩
theorem ASt_stop {M : Mem} {s : SA} {here : List Int} {x : Int} (h : ASt M s here) (hx : x ≠ 0) : STP (up M 81 6 x) x here := by
  obtain ⟨⟨a1, a2, a3⟩, ⟨b1, b2⟩, c1, ⟨d1, d2, d3⟩, e1, e2, e3⟩ := h
  refine ⟨⟨up_eq _ _ _ _, hx⟩, ⟨?_, ?_, ?_⟩, ?_, ?_, by omega⟩
  · rw [up_nk (by decide)]; omega
  · rw [up_nk (by decide), up_nk (by decide)]; omega
  · rw [up_nk (by decide)]; omega
  · rw [up_nc (by decide)]; omega
  · rw [up_nc (by decide)]; exact d1
abbrev PST (M : Mem) (here : List Int) (v : Int) (M' : Mem) : Prop := (v = 0 ∨ v = 1) ∧ STP M' (-5) here ∧ f0 M M'
set_option maxHeartbeats 4000000 in
theorem k_As_collectEntries_s (l : Launch) (n : Nat) (M : Mem) (hn : 117 ≤ n) (here : List Int) (hS : STP M (-5) here) (r c0 deep : Int) : AY l m_As_collectEntries 4 [.inr 81, .inl r, .inr c0, .inl deep] n M (fun v M' => v = -1 ∧ STP M' (-5) here ∧ f0 M M') := by
  refine AM_intro (by decide) (Nat.le_of_ble_eq_true rfl) (fun X b0 D hC _ => ?_)
  show AW X b0 D true 0 0 _ n M 0 [some (.inr 81), some (.inl r), some (.inr c0), some (.inl deep), none] []
  have hb := STP_b hS
  refine A_ild3 hC d_As_collectEntries_0 ?_
  refine A_bipush hC d_As_collectEntries_1 (by decide) (by decide) ?_
  refine A_icmple (tgt := 12) hC d_As_collectEntries_3 (by decide) (fun h3 => ?_) (fun h3 => ?_)
  · refine A_ald0 hC d_As_collectEntries_12 ?_
    refine A_getI (kI := 6) hC d_As_collectEntries_13 fF_As_43 ⟨by decide, rfl⟩ rfl ly_81 (by omega) ?_
    refine A_ifeq (tgt := 21) hC d_As_collectEntries_16 (by decide) (fun h16 => ?_) (fun h16 => ?_)
    · exact absurd h16 (by omega)
    · refine A_null hC d_As_collectEntries_19 ?_
      refine A_aret hC d_As_collectEntries_20 rfl (Nat.le_refl _) (Nat.le_refl _) ?_
      exact ⟨rfl, _, rfl, rfl, hS, f0_r⟩
  · refine A_ald0 hC d_As_collectEntries_6 ?_
    refine A_bipush hC d_As_collectEntries_7 (by decide) (by decide) ?_
    refine A_putI (kI := 6) hC d_As_collectEntries_9 fP_As_43 ⟨by decide, rfl⟩ rfl ly_81 (by omega) (fun _ => by decide) ?_
    refine A_ald0 hC d_As_collectEntries_12 ?_
    refine A_getIE (x := -5) (kI := 6) hC d_As_collectEntries_13 fF_As_43 ⟨by decide, rfl⟩ rfl ly_81 (by omega) (by rw [up_eq]) ?_
    refine A_ifeq (tgt := 21) hC d_As_collectEntries_16 (by decide) (fun h16 => ?_) (fun h16 => ?_)
    · exact absurd h16 (by decide)
    · refine A_null hC d_As_collectEntries_19 ?_
      refine A_aret hC d_As_collectEntries_20 rfl (Nat.le_refl _) (Nat.le_refl _) ?_
      exact ⟨rfl, _, rfl, rfl, ⟨⟨up_eq _ _ _ _, by decide⟩, ⟨by rw [up_nk (by decide)]; exact hb.2.1.1, by rw [up_nk (by decide), up_nk (by decide)]; exact hb.2.1.2.1, by rw [up_nk (by decide)]; exact hb.2.1.2.2⟩, by rw [up_nc (by decide)]; exact hb.2.2.1, by rw [up_nc (by decide)]; exact hS.2.2.2.1, hS.2.2.2.2⟩, f0_up (by decide)⟩
set_option maxHeartbeats 4000000 in
theorem k_As_workOutObject_s (l : Launch) (n : Nat) (M : Mem) (hn : 117 ≤ n) (here : List Int) (hS : STP M (-5) here) (r c0 deep : Int) : AX l m_As_workOutObject 5 [.inr 81, .inl r, .inr c0, .inl deep] n M (PST M here) := by
  refine AM_intro (by decide) (Nat.le_of_ble_eq_true rfl) (fun X b0 D hC _ => ?_)
  show AW X b0 D true 0 0 _ n M 0 [some (.inr 81), some (.inl r), some (.inr c0), some (.inl deep), none, none, none, none] []
  refine A_ald0 hC d_As_workOutObject_0 ?_
  refine A_ild1 hC d_As_workOutObject_1 ?_
  refine A_ald2 hC d_As_workOutObject_2 ?_
  refine A_ild3 hC d_As_workOutObject_3 ?_
  refine A_VY (as := [.inl r, .inr c0, .inl deep]) hC d_As_workOutObject_4 mv_As_collectEntries lk_As_50 (by decide) sel_As_collectEntries hq_As ly_81 (by omega) (k_As_collectEntries_s l n M hn here hS r c0 deep) rfl rfl (Nat.le_of_ble_eq_true rfl) ⟨Nat.zero_le _, Nat.zero_le _⟩ rfl (fun v M1 hv => ?_)
  obtain ⟨rfl, hS1, hf1⟩ := hv
  refine A_ast4 hC d_As_workOutObject_7 ?_
  refine A_ald0 hC d_As_workOutObject_9 ?_
  refine A_getI (kI := 4) hC d_As_workOutObject_10 fF_As_30 ⟨by decide, rfl⟩ rfl ly_81 (by omega) ?_
  refine A_ist5 hC d_As_workOutObject_13 ?_
  refine A_iconst hC d_As_workOutObject_15 (by decide) ?_
  refine A_ist6 hC d_As_workOutObject_16 ?_
  refine A_ald0 hC d_As_workOutObject_18 ?_
  refine A_iconst hC d_As_workOutObject_19 (by decide) ?_
  refine A_VF0 (as := [.inl 2]) hC d_As_workOutObject_20 mv_As_addCode lk_As_54 (by decide) sel_As_addCode hq_As ly_81 (by omega) (k_As_addCode l n M1 hn 2 (STP_b hS1).2.1) rfl rfl (Nat.le_of_ble_eq_true rfl) ⟨Nat.zero_le _, Nat.zero_le _⟩ rfl ?_
  rw [STP_ad hS1]
  refine A_ald4 hC d_As_workOutObject_23 ?_
  refine A_ast7 hC d_As_workOutObject_25 ?_
  refine A_ald7 hC d_As_workOutObject_27 ?_
  refine A_ifnull (tgt := 103) hC d_As_workOutObject_29 (by decide) (fun h29 => ?_) (fun h29 => ?_)
  · refine A_ald0 hC d_As_workOutObject_103 ?_
    refine A_iconst hC d_As_workOutObject_104 (by decide) ?_
    refine A_VF0 (as := [.inl 3]) hC d_As_workOutObject_105 mv_As_addCode lk_As_54 (by decide) sel_As_addCode hq_As ly_81 (by omega) (k_As_addCode l n M1 hn 3 (STP_b hS1).2.1) rfl rfl (Nat.le_of_ble_eq_true rfl) ⟨Nat.zero_le _, Nat.zero_le _⟩ rfl ?_
    rw [STP_ad hS1]
    refine A_ild6 hC d_As_workOutObject_108 ?_
    refine A_ifne (tgt := 126) hC d_As_workOutObject_110 (by decide) (fun h110 => ?_) (fun h110 => ?_)
    · refine A_ild6 hC d_As_workOutObject_126 ?_
      refine A_zret hC d_As_workOutObject_128 rfl (Nat.le_refl _) (Nat.le_refl _) (by first | decide | omega) ?_
      exact ⟨rfl, _, rfl, Or.inr rfl, hS1, hf1⟩
    · exact absurd h110 (by decide)
  · exact absurd (by decide) h29
set_option maxHeartbeats 4000000 in
theorem k_As_workOutLink_s (l : Launch) (n : Nat) (M : Mem) (hn : 117 ≤ n) (here : List Int) (hS : STP M (-5) here) (e : Int) (he : 20 ≤ e ∧ e < 81) (r : Int) (hr : 1 ≤ r ∧ r ≤ 12) (hb : 0 ≤ M e 3 ∧ M e 3 ≤ 3) (deep : Int) (hdp : 0 ≤ deep ∧ deep ≤ 14) : AX l m_As_workOutLink 6 [.inr 81, .inl r, .inr e, .inl deep] n M (PST M here) := by
  refine AM_intro (by decide) (Nat.le_of_ble_eq_true rfl) (fun X b0 D hC _ => ?_)
  show AW X b0 D true 0 0 _ n M 0 [some (.inr 81), some (.inl r), some (.inr e), some (.inl deep), none] []
  refine A_ald0 hC d_As_workOutLink_0 ?_
  refine A_getCR (v := 6) hC d_As_workOutLink_1 fF_As_22 ⟨by decide, rfl⟩ ly_81 (by omega) ⟨rfl, by decide⟩ cv_81_0 ?_
  refine A_ild1 hC d_As_workOutLink_4 ?_
  refine A_ald2 hC d_As_workOutLink_5 ?_
  refine A_getI (kI := 3) hC d_As_workOutLink_6 fF_As_111 ⟨by decide, rfl⟩ rfl (ly_S (by omega)) (by omega) ?_
  refine A_VF1 (as := [.inl r, .inl (M e 3)]) hC d_As_workOutLink_9 mv_Ro_linkedCount lk_As_122 (by decide) sel_Ro_linkedCount hq_Ro ly_6 (by omega) (k_Ro_linkedCount l n M hn r (M e 3) (by omega) (by omega)) rfl rfl (Nat.le_of_ble_eq_true rfl) ⟨Nat.zero_le _, Nat.zero_le _⟩ rfl ?_
  refine A_ifne (tgt := 21) hC d_As_workOutLink_12 (by decide) (fun h12 => ?_) (fun h12 => ?_)
  · refine A_ald0 hC d_As_workOutLink_21 ?_
    refine A_ald0 hC d_As_workOutLink_22 ?_
    refine A_getCR (v := 6) hC d_As_workOutLink_23 fF_As_22 ⟨by decide, rfl⟩ ly_81 (by omega) ⟨rfl, by decide⟩ cv_81_0 ?_
    refine A_ild1 hC d_As_workOutLink_26 ?_
    refine A_ald2 hC d_As_workOutLink_27 ?_
    refine A_getI (kI := 3) hC d_As_workOutLink_28 fF_As_111 ⟨by decide, rfl⟩ rfl (ly_S (by omega)) (by omega) ?_
    refine A_iconst hC d_As_workOutLink_31 (by decide) ?_
    refine A_VF1 (as := [.inl r, .inl (M e 3), .inl 0]) hC d_As_workOutLink_32 mv_Ro_linkedRow lk_As_125 (by decide) sel_Ro_linkedRow hq_Ro ly_6 (by omega) (k_Ro_linkedRow l n M hn r (M e 3) 0 (by omega) (by omega) (by omega)) rfl rfl (Nat.le_of_ble_eq_true rfl) ⟨Nat.zero_le _, Nat.zero_le _⟩ rfl ?_
    refine A_ald2 hC d_As_workOutLink_35 ?_
    refine A_ild3 hC d_As_workOutLink_36 ?_
    refine A_iconst hC d_As_workOutLink_37 (by decide) ?_
    refine A_iadd hC d_As_workOutLink_38 (by omega) ?_
    refine A_VX (as := [.inl (M 10 (((r - 1) * 4 + (M e 3)) * 4 + 0)), .inr e, .inl (deep + 1)]) hC d_As_workOutLink_39 mv_As_workOutObject lk_As_46 (by decide) sel_As_workOutObject hq_As ly_81 (by omega) (k_As_workOutObject_s l n M hn here hS (M 10 (((r - 1) * 4 + (M e 3)) * 4 + 0)) e (deep + 1)) rfl rfl (Nat.le_of_ble_eq_true rfl) ⟨Nat.zero_le _, Nat.zero_le _⟩ rfl (fun v M1 hv => ?_)
    refine A_ist4 hC d_As_workOutLink_42 ?_
    refine A_ild4 hC d_As_workOutLink_44 ?_
    refine A_ifne (tgt := 56) hC d_As_workOutLink_46 (by decide) (fun h46 => ?_) (fun h46 => ?_)
    · refine A_iconst hC d_As_workOutLink_56 (by decide) ?_
      refine A_goto (tgt := 61) hC d_As_workOutLink_57 (by decide) ?_
      refine A_zret hC d_As_workOutLink_61 rfl (Nat.le_refl _) (Nat.le_refl _) (by first | decide | omega) ?_
      exact ⟨rfl, _, rfl, by decide, hv.2.1, hv.2.2⟩
    · refine A_ald2 hC d_As_workOutLink_49 ?_
      refine A_getI (kI := 8) hC d_As_workOutLink_50 fF_As_129 ⟨by decide, rfl⟩ rfl (ly_S (by omega)) (by omega) ?_
      refine A_ifne (tgt := 60) hC d_As_workOutLink_53 (by decide) (fun h53 => ?_) (fun h53 => ?_)
      · refine A_iconst hC d_As_workOutLink_60 (by decide) ?_
        refine A_zret hC d_As_workOutLink_61 rfl (Nat.le_refl _) (Nat.le_refl _) (by first | decide | omega) ?_
        exact ⟨rfl, _, rfl, by decide, hv.2.1, hv.2.2⟩
      · refine A_iconst hC d_As_workOutLink_56 (by decide) ?_
        refine A_goto (tgt := 61) hC d_As_workOutLink_57 (by decide) ?_
        refine A_zret hC d_As_workOutLink_61 rfl (Nat.le_refl _) (Nat.le_refl _) (by first | decide | omega) ?_
        exact ⟨rfl, _, rfl, by decide, hv.2.1, hv.2.2⟩
  · refine A_ald0 hC d_As_workOutLink_15 ?_
    refine A_ald2 hC d_As_workOutLink_16 ?_
    refine A_VF1 (as := [.inr e]) hC d_As_workOutLink_17 mv_As_workOutNothing lk_As_118 (by decide) sel_As_workOutNothing hq_As ly_81 (by omega) (k_As_workOutNothing l n M hn (STP_b hS).2.1 (STP_b hS).2.2.1 (STP_b hS).2.2.2 e he) rfl rfl (Nat.le_of_ble_eq_true rfl) ⟨Nat.zero_le _, Nat.zero_le _⟩ rfl ?_
    refine A_zret hC d_As_workOutLink_20 rfl (Nat.le_refl _) (Nat.le_refl _) (by split <;> simp) ?_
    exact ⟨rfl, _, rfl, by split <;> simp, STP_no hS, f0_no⟩
set_option maxHeartbeats 4000000 in
theorem k_As_workOutMany_s (l : Launch) (n : Nat) (M : Mem) (hn : 117 ≤ n) (here : List Int) (hS : STP M (-5) here) (e : Int) (he : 20 ≤ e ∧ e < 81) (r : Int) (hr : 1 ≤ r ∧ r ≤ 12) (hb : 0 ≤ M e 3 ∧ M e 3 ≤ 3) (deep : Int) : AX l m_As_workOutMany 6 [.inr 81, .inl r, .inr e, .inl deep] n M (PST M here) := by
  refine AM_intro (by decide) (Nat.le_of_ble_eq_true rfl) (fun X b0 D hC _ => ?_)
  show AW X b0 D true 0 0 _ n M 0 [some (.inr 81), some (.inl r), some (.inr e), some (.inl deep), none, none] []
  have hs6 := (STP_b hS).1
  refine A_iconst hC d_As_workOutMany_0 (by decide) ?_
  refine A_ist4 hC d_As_workOutMany_1 ?_
  refine A_ald0 hC d_As_workOutMany_3 ?_
  refine A_iconst hC d_As_workOutMany_4 (by decide) ?_
  refine A_VF0 (as := [.inl 4]) hC d_As_workOutMany_5 mv_As_addCode lk_As_54 (by decide) sel_As_addCode hq_As ly_81 (by omega) (k_As_addCode l n M hn 4 (STP_b hS).2.1) rfl rfl (Nat.le_of_ble_eq_true rfl) ⟨Nat.zero_le _, Nat.zero_le _⟩ rfl ?_
  rw [STP_ad hS]
  refine A_iconst hC d_As_workOutMany_8 (by decide) ?_
  refine A_ist5 hC d_As_workOutMany_9 ?_
  refine A_ild5 hC d_As_workOutMany_11 ?_
  refine A_ald0 hC d_As_workOutMany_13 ?_
  refine A_getCR (v := 6) hC d_As_workOutMany_14 fF_As_22 ⟨by decide, rfl⟩ ly_81 (by omega) ⟨rfl, by decide⟩ cv_81_0 ?_
  refine A_ild1 hC d_As_workOutMany_17 ?_
  refine A_ald2 hC d_As_workOutMany_18 ?_
  refine A_getI (kI := 3) hC d_As_workOutMany_19 fF_As_111 ⟨by decide, rfl⟩ rfl (ly_S (by omega)) (by omega) ?_
  refine A_VF1 (as := [.inl r, .inl (M e 3)]) hC d_As_workOutMany_22 mv_Ro_linkedCount lk_As_122 (by decide) sel_Ro_linkedCount hq_Ro ly_6 (by omega) (k_Ro_linkedCount l n M hn r (M e 3) (by omega) (by omega)) rfl rfl (Nat.le_of_ble_eq_true rfl) ⟨Nat.zero_le _, Nat.zero_le _⟩ rfl ?_
  refine A_icmpge (tgt := 97) hC d_As_workOutMany_25 (by decide) (fun h25 => ?_) (fun h25 => ?_)
  · refine A_ald0 hC d_As_workOutMany_97 ?_
    refine A_iconst hC d_As_workOutMany_98 (by decide) ?_
    refine A_VF0 (as := [.inl 5]) hC d_As_workOutMany_99 mv_As_addCode lk_As_54 (by decide) sel_As_addCode hq_As ly_81 (by omega) (k_As_addCode l n M hn 5 (STP_b hS).2.1) rfl rfl (Nat.le_of_ble_eq_true rfl) ⟨Nat.zero_le _, Nat.zero_le _⟩ rfl ?_
    rw [STP_ad hS]
    refine A_ild4 hC d_As_workOutMany_102 ?_
    refine A_ifne (tgt := 114) hC d_As_workOutMany_104 (by decide) (fun h104 => ?_) (fun h104 => ?_)
    · refine A_iconst hC d_As_workOutMany_114 (by decide) ?_
      refine A_goto (tgt := 119) hC d_As_workOutMany_115 (by decide) ?_
      refine A_zret hC d_As_workOutMany_119 rfl (Nat.le_refl _) (Nat.le_refl _) (by first | decide | omega) ?_
      exact ⟨rfl, _, rfl, by decide, hS, f0_r⟩
    · exact absurd h104 (by decide)
  · refine A_ald0 hC d_As_workOutMany_28 ?_
    refine A_getI (kI := 6) hC d_As_workOutMany_29 fF_As_43 ⟨by decide, rfl⟩ rfl ly_81 (by omega) ?_
    refine A_ifne (tgt := 97) hC d_As_workOutMany_32 (by decide) (fun h32 => ?_) (fun h32 => ?_)
    · refine A_ald0 hC d_As_workOutMany_97 ?_
      refine A_iconst hC d_As_workOutMany_98 (by decide) ?_
      refine A_VF0 (as := [.inl 5]) hC d_As_workOutMany_99 mv_As_addCode lk_As_54 (by decide) sel_As_addCode hq_As ly_81 (by omega) (k_As_addCode l n M hn 5 (STP_b hS).2.1) rfl rfl (Nat.le_of_ble_eq_true rfl) ⟨Nat.zero_le _, Nat.zero_le _⟩ rfl ?_
      rw [STP_ad hS]
      refine A_ild4 hC d_As_workOutMany_102 ?_
      refine A_ifne (tgt := 114) hC d_As_workOutMany_104 (by decide) (fun h104 => ?_) (fun h104 => ?_)
      · refine A_iconst hC d_As_workOutMany_114 (by decide) ?_
        refine A_goto (tgt := 119) hC d_As_workOutMany_115 (by decide) ?_
        refine A_zret hC d_As_workOutMany_119 rfl (Nat.le_refl _) (Nat.le_refl _) (by first | decide | omega) ?_
        exact ⟨rfl, _, rfl, by decide, hS, f0_r⟩
      · exact absurd h104 (by decide)
    · exact absurd h32 hs6
set_option maxHeartbeats 4000000 in
theorem k_As_workOutValue_s (l : Launch) (n : Nat) (M : Mem) (hn : 117 ≤ n) (here : List Int) (hS : STP M (-5) here) (hR : ROW M) (e : Int) (he : 20 ≤ e ∧ e < 81) (r : Int) (hr : 1 ≤ r ∧ r ≤ 12) (hb : ¬ M e 1 = 2 → 0 ≤ M e 3 ∧ M e 3 ≤ 3) (deep : Int) (hdp : 0 ≤ deep ∧ deep ≤ 14) : AX l m_As_workOutValue 7 [.inr 81, .inl r, .inr e, .inl deep] n M (PST M here) := by
  refine AM_intro (by decide) (Nat.le_of_ble_eq_true rfl) (fun X b0 D hC _ => ?_)
  show AW X b0 D true 0 0 _ n M 0 [some (.inr 81), some (.inl r), some (.inr e), some (.inl deep)] []
  have h7 := hR.2.2.2 (r - 1)
  refine A_ald2 hC d_As_workOutValue_0 ?_
  refine A_getI (kI := 1) hC d_As_workOutValue_1 fF_As_95 ⟨by decide, rfl⟩ rfl (ly_S (by omega)) (by omega) ?_
  refine A_iconst hC d_As_workOutValue_4 (by decide) ?_
  refine A_icmpne (tgt := 26) hC d_As_workOutValue_5 (by decide) (fun h5 => ?_) (fun h5 => ?_)
  · refine A_ald2 hC d_As_workOutValue_26 ?_
    refine A_getI (kI := 7) hC d_As_workOutValue_27 fF_As_98 ⟨by decide, rfl⟩ rfl (ly_S (by omega)) (by omega) ?_
    refine A_lsw (td := 72) [(1, 56), (2, 64)] hC d_As_workOutValue_30 (by decide) (by decide) (by decide) ⟨fun h30 => ?_, fun h30_0 => ⟨fun h30 => ?_, fun h30_1 => ?_⟩⟩
    · refine A_ald0 hC d_As_workOutValue_56 ?_
      refine A_ild1 hC d_As_workOutValue_57 ?_
      refine A_ald2 hC d_As_workOutValue_58 ?_
      refine A_ild3 hC d_As_workOutValue_59 ?_
      refine A_VX (as := [.inl r, .inr e, .inl deep]) hC d_As_workOutValue_60 mv_As_workOutLink lk_As_101 (by decide) sel_As_workOutLink hq_As ly_81 (by omega) (k_As_workOutLink_s l n M hn here hS e he r hr (hb h5) deep hdp) rfl rfl (Nat.le_of_ble_eq_true rfl) ⟨Nat.zero_le _, Nat.zero_le _⟩ rfl (fun v M1 hv => ?_)
      refine A_zret hC d_As_workOutValue_63 rfl (Nat.le_refl _) (Nat.le_refl _) (by exact hv.1) ?_
      exact ⟨rfl, _, rfl, hv⟩
    · refine A_ald0 hC d_As_workOutValue_64 ?_
      refine A_ild1 hC d_As_workOutValue_65 ?_
      refine A_ald2 hC d_As_workOutValue_66 ?_
      refine A_ild3 hC d_As_workOutValue_67 ?_
      refine A_VX (as := [.inl r, .inr e, .inl deep]) hC d_As_workOutValue_68 mv_As_workOutMany lk_As_104 (by decide) sel_As_workOutMany hq_As ly_81 (by omega) (k_As_workOutMany_s l n M hn here hS e he r hr (hb h5) deep) rfl rfl (Nat.le_of_ble_eq_true rfl) ⟨Nat.zero_le _, Nat.zero_le _⟩ rfl (fun v M1 hv => ?_)
      refine A_zret hC d_As_workOutValue_71 rfl (Nat.le_refl _) (Nat.le_refl _) (by exact hv.1) ?_
      exact ⟨rfl, _, rfl, hv⟩
    · refine A_ald0 hC d_As_workOutValue_72 ?_
      refine A_ild1 hC d_As_workOutValue_73 ?_
      refine A_ald2 hC d_As_workOutValue_74 ?_
      refine A_VF1 (as := [.inl r, .inr e]) hC d_As_workOutValue_75 mv_As_workOutNumber lk_As_107 (by decide) sel_As_workOutNumber hq_As ly_81 (by omega) (k_As_workOutNumber l n M hn (STP_b hS).2.1 (STP_b hS).2.2.1 (STP_b hS).2.2.2 r e he hr (hb h5) (hR.1 _)) rfl rfl (Nat.le_of_ble_eq_true rfl) ⟨Nat.zero_le _, Nat.zero_le _⟩ rfl ?_
      refine A_zret hC d_As_workOutValue_78 rfl (Nat.le_refl _) (Nat.le_refl _) (by repeat (first | omega | split)) ?_
      exact ⟨rfl, _, rfl, by repeat (first | omega | split), by (split; exact STP_no hS; rw [STP_ad hS]; exact hS), by (split; exact f0_no; exact f0_ad)⟩
  · refine A_ald0 hC d_As_workOutValue_8 ?_
    refine A_sipush hC d_As_workOutValue_9 (by decide) (by decide) ?_
    refine A_ald0 hC d_As_workOutValue_12 ?_
    refine A_getCR (v := 6) hC d_As_workOutValue_13 fF_As_22 ⟨by decide, rfl⟩ ly_81 (by omega) ⟨rfl, by decide⟩ cv_81_0 ?_
    refine A_ild1 hC d_As_workOutValue_16 ?_
    refine A_VF1 (as := [.inl r]) hC d_As_workOutValue_17 mv_Ro_typeOf lk_As_79 (by decide) sel_Ro_typeOf hq_Ro ly_6 (by omega) (k_Ro_typeOf l n M hn r (by omega)) rfl rfl (Nat.le_of_ble_eq_true rfl) ⟨Nat.zero_le _, Nat.zero_le _⟩ rfl ?_
    refine A_iadd hC d_As_workOutValue_20 (by omega) ?_
    refine A_VF0 (as := [.inl (2000 + (M 7 (r - 1)))]) hC d_As_workOutValue_21 mv_As_addCode lk_As_54 (by decide) sel_As_addCode hq_As ly_81 (by omega) (k_As_addCode l n M hn (2000 + (M 7 (r - 1))) (STP_b hS).2.1) rfl rfl (Nat.le_of_ble_eq_true rfl) ⟨Nat.zero_le _, Nat.zero_le _⟩ rfl ?_
    rw [STP_ad hS]
    refine A_iconst hC d_As_workOutValue_24 (by decide) ?_
    refine A_zret hC d_As_workOutValue_25 rfl (Nat.le_refl _) (Nat.le_refl _) (by first | decide | omega) ?_
    exact ⟨rfl, _, rfl, Or.inr rfl, hS, f0_r⟩
