set_option maxHeartbeats 4000000 in
theorem k_Sc_addField (l : Launch) (n : Nat) (M : Mem) (hn : 117 ≤ n) (t k g r : Int) (ht : 0 ≤ t ∧ t ≤ 4) (hf : 0 ≤ M 2 t ∧ M 2 t ≤ 3) (hr : r = 0 ∨ r = 1) : AF l m_Sc_addField 1 [.inr 1, .inl t, .inl k, .inl g, .inl r] n M (some (.inl (M 2 t))) (up (up (up (up M 3 (t * 4 + M 2 t) k) 4 (t * 4 + M 2 t) g) 5 (t * 4 + M 2 t) r) 2 t (M 2 t + 1)) := by
  refine AM_intro (by decide) (Nat.le_of_ble_eq_true rfl) (fun X b0 D hC _ => ?_)
  show AW X b0 D true 0 0 _ n M 0 [some (.inr 1), some (.inl t), some (.inl k), some (.inl g), some (.inl r), none, none] []
  refine A_ald0 hC d_Sc_addField_0 ?_
  refine A_getCR (v := 2) hC d_Sc_addField_1 fF_Sc_9 ⟨by decide, rfl⟩ ly_1 (by omega) ⟨rfl, by decide⟩ cv_1_0 ?_
  refine A_ild1 hC d_Sc_addField_4 ?_
  refine A_iald hC d_Sc_addField_5 ly_2 (by omega) (by omega) ?_
  refine A_ist5 hC d_Sc_addField_6 ?_
  refine A_ild1 hC d_Sc_addField_8 ?_
  refine A_iconst hC d_Sc_addField_9 (by decide) ?_
  refine A_imul hC d_Sc_addField_10 (by omega) ?_
  refine A_ild5 hC d_Sc_addField_11 ?_
  refine A_iadd hC d_Sc_addField_13 (by omega) ?_
  refine A_ist6 hC d_Sc_addField_14 ?_
  refine A_ald0 hC d_Sc_addField_16 ?_
  refine A_getCR (v := 3) hC d_Sc_addField_17 fF_Sc_15 ⟨by decide, rfl⟩ ly_1 (by omega) ⟨rfl, by decide⟩ cv_1_1 ?_
  refine A_ild6 hC d_Sc_addField_20 ?_
  refine A_ild2 hC d_Sc_addField_22 ?_
  refine A_iast hC d_Sc_addField_23 ly_3 (by omega) (by omega) (fun _ => kk_i _) ?_
  refine A_ald0 hC d_Sc_addField_24 ?_
  refine A_getCR (v := 4) hC d_Sc_addField_25 fF_Sc_18 ⟨by decide, rfl⟩ ly_1 (by omega) ⟨rfl, by decide⟩ cv_1_2 ?_
  refine A_ild6 hC d_Sc_addField_28 ?_
  refine A_ild3 hC d_Sc_addField_30 ?_
  refine A_iast hC d_Sc_addField_31 ly_4 (by omega) (by omega) (fun _ => kk_i _) ?_
  refine A_ald0 hC d_Sc_addField_32 ?_
  refine A_getCR (v := 5) hC d_Sc_addField_33 fF_Sc_21 ⟨by decide, rfl⟩ ly_1 (by omega) ⟨rfl, by decide⟩ cv_1_3 ?_
  refine A_ild6 hC d_Sc_addField_36 ?_
  refine A_ild4 hC d_Sc_addField_38 ?_
  refine A_zast hC d_Sc_addField_40 ly_5 (by omega) (by omega) (fun _ => kk_z _) (by first | decide | omega) ?_
  refine A_ald0 hC d_Sc_addField_41 ?_
  refine A_getCR (v := 2) hC d_Sc_addField_42 fF_Sc_9 ⟨by decide, rfl⟩ ly_1 (by omega) ⟨rfl, by decide⟩ cv_1_0 ?_
  refine A_ild1 hC d_Sc_addField_45 ?_
  refine A_dup2 hC d_Sc_addField_46 ?_
  refine A_ialdE (x := M 2 t) hC d_Sc_addField_47 ly_2 (by omega) (by omega) (by rw [up_nc (c := 5) (c' := 2) (by decide), up_nc (c := 4) (c' := 2) (by decide), up_nc (c := 3) (c' := 2) (by decide)]) ?_
  refine A_iconst hC d_Sc_addField_48 (by decide) ?_
  refine A_iadd hC d_Sc_addField_49 (by omega) ?_
  refine A_iast hC d_Sc_addField_50 ly_2 (by omega) (by omega) (fun _ => kk_i _) ?_
  refine A_ild5 hC d_Sc_addField_51 ?_
  refine A_iret hC d_Sc_addField_53 rfl (Nat.le_refl _) (Nat.le_refl _) ?_
  exact ⟨rfl, rfl, rfl⟩
set_option maxHeartbeats 4000000 in
theorem k_Ro_hasRow (l : Launch) (n : Nat) (M : Mem) (hn : 117 ≤ n) (r : Int) : AF l m_Ro_hasRow 2 [.inr 6, .inl r] n M (some (.inl (if 1 ≤ r ∧ r ≤ M 6 4 then 1 else 0))) M := by
  refine AM_intro (by decide) (Nat.le_of_ble_eq_true rfl) (fun X b0 D hC _ => ?_)
  show AW X b0 D true 0 0 _ n M 0 [some (.inr 6), some (.inl r)] []
  refine A_ild1 hC d_Ro_hasRow_0 ?_
  refine A_iconst hC d_Ro_hasRow_1 (by decide) ?_
  refine A_ald0 hC d_Ro_hasRow_2 ?_
  refine A_getI (kI := 4) hC d_Ro_hasRow_3 fF_Ro_24 ⟨by decide, rfl⟩ rfl ly_6 (by omega) ?_
  refine A_SNF1 (as := [.inl r, .inl 1, .inl (M 6 4)]) hC d_Ro_hasRow_6 mv_G_isWithin lk_Ro_28 (by decide) (k_G_isWithin l n M hn r 1 (M 6 4)) rfl rfl (Nat.le_of_ble_eq_true rfl) ⟨Nat.zero_le _, Nat.zero_le _⟩ rfl ?_
  refine A_zret hC d_Ro_hasRow_9 rfl (Nat.le_refl _) (Nat.le_refl _) (by first | decide | omega) ?_
  exact ⟨rfl, rfl, rfl⟩
set_option maxHeartbeats 4000000 in
theorem k_Ro_typeOf (l : Launch) (n : Nat) (M : Mem) (hn : 117 ≤ n) (r : Int) (hr : 1 ≤ r ∧ r ≤ 12) : AF l m_Ro_typeOf 1 [.inr 6, .inl r] n M (some (.inl (M 7 (r - 1)))) M := by
  refine AM_intro (by decide) (Nat.le_of_ble_eq_true rfl) (fun X b0 D hC _ => ?_)
  show AW X b0 D true 0 0 _ n M 0 [some (.inr 6), some (.inl r)] []
  refine A_ald0 hC d_Ro_typeOf_0 ?_
  refine A_getCR (v := 7) hC d_Ro_typeOf_1 fF_Ro_9 ⟨by decide, rfl⟩ ly_6 (by omega) ⟨rfl, by decide⟩ cv_6_0 ?_
  refine A_ild1 hC d_Ro_typeOf_4 ?_
  refine A_iconst hC d_Ro_typeOf_5 (by decide) ?_
  refine A_isub hC d_Ro_typeOf_6 (by omega) ?_
  refine A_iald hC d_Ro_typeOf_7 ly_7 (by omega) (by omega) ?_
  refine A_iret hC d_Ro_typeOf_8 rfl (Nat.le_refl _) (Nat.le_refl _) ?_
  exact ⟨rfl, rfl, rfl⟩
set_option maxHeartbeats 4000000 in
theorem k_Ro_cellOf (l : Launch) (n : Nat) (M : Mem) (hn : 117 ≤ n) (r f : Int) (hr : 1 ≤ r ∧ r ≤ 12) (hf : 0 ≤ f ∧ f ≤ 3) : AF l m_Ro_cellOf 1 [.inl r, .inl f] n M (some (.inl ((r - 1) * 4 + f))) M := by
  refine AM_intro (by decide) (Nat.le_of_ble_eq_true rfl) (fun X b0 D hC _ => ?_)
  show AW X b0 D true 0 0 _ n M 0 [some (.inl r), some (.inl f)] []
  refine A_ild0 hC d_Ro_cellOf_0 ?_
  refine A_iconst hC d_Ro_cellOf_1 (by decide) ?_
  refine A_isub hC d_Ro_cellOf_2 (by omega) ?_
  refine A_iconst hC d_Ro_cellOf_3 (by decide) ?_
  refine A_imul hC d_Ro_cellOf_4 (by omega) ?_
  refine A_ild1 hC d_Ro_cellOf_5 ?_
  refine A_iadd hC d_Ro_cellOf_6 (by omega) ?_
  refine A_iret hC d_Ro_cellOf_7 rfl (Nat.le_refl _) (Nat.le_refl _) ?_
  exact ⟨rfl, rfl, rfl⟩
set_option maxHeartbeats 4000000 in
theorem k_Ro_emptyField (l : Launch) (n : Nat) (M : Mem) (hn : 117 ≤ n) (r f : Int) (hr : 1 ≤ r ∧ r ≤ 12) (hf : 0 ≤ f ∧ f ≤ 3) : AF l m_Ro_emptyField 2 [.inr 6, .inl r, .inl f] n M none (up (up M 8 ((r - 1) * 4 + f) (-1)) 9 ((r - 1) * 4 + f) 0) := by
  refine AM_intro (by decide) (Nat.le_of_ble_eq_true rfl) (fun X b0 D hC _ => ?_)
  show AW X b0 D true 0 0 _ n M 0 [some (.inr 6), some (.inl r), some (.inl f)] []
  refine A_ald0 hC d_Ro_emptyField_0 ?_
  refine A_getCR (v := 8) hC d_Ro_emptyField_1 fF_Ro_15 ⟨by decide, rfl⟩ ly_6 (by omega) ⟨rfl, by decide⟩ cv_6_1 ?_
  refine A_ild1 hC d_Ro_emptyField_4 ?_
  refine A_ild2 hC d_Ro_emptyField_5 ?_
  refine A_SF1 (as := [.inl r, .inl f]) hC d_Ro_emptyField_6 mv_Ro_cellOf lk_Ro_36 (by decide) (k_Ro_cellOf l n M hn r f (by omega) (by omega)) rfl rfl (Nat.le_of_ble_eq_true rfl) ⟨Nat.zero_le _, Nat.zero_le _⟩ rfl ?_
  refine A_iconst hC d_Ro_emptyField_9 (by decide) ?_
  refine A_iast hC d_Ro_emptyField_10 ly_8 (by omega) (by omega) (fun _ => kk_i _) ?_
  refine A_ald0 hC d_Ro_emptyField_11 ?_
  refine A_getCR (v := 9) hC d_Ro_emptyField_12 fF_Ro_18 ⟨by decide, rfl⟩ ly_6 (by omega) ⟨rfl, by decide⟩ cv_6_2 ?_
  refine A_ild1 hC d_Ro_emptyField_15 ?_
  refine A_ild2 hC d_Ro_emptyField_16 ?_
  refine A_SF1 (as := [.inl r, .inl f]) hC d_Ro_emptyField_17 mv_Ro_cellOf lk_Ro_36 (by decide) (k_Ro_cellOf l n (up M 8 ((r - 1) * 4 + f) (-1)) hn r f (by omega) (by omega)) rfl rfl (Nat.le_of_ble_eq_true rfl) ⟨Nat.zero_le _, Nat.zero_le _⟩ rfl ?_
  refine A_iconst hC d_Ro_emptyField_20 (by decide) ?_
  refine A_iast hC d_Ro_emptyField_21 ly_9 (by omega) (by omega) (fun _ => kk_i _) ?_
  refine A_vret hC d_Ro_emptyField_22 rfl (Nat.le_refl _) (Nat.le_refl _) ?_
  exact ⟨rfl, rfl, rfl⟩
set_option maxHeartbeats 4000000 in
theorem k_Ro_holdNumber (l : Launch) (n : Nat) (M : Mem) (hn : 117 ≤ n) (r f x : Int) (hr : 1 ≤ r ∧ r ≤ 12) (hf : 0 ≤ f ∧ f ≤ 3) : AF l m_Ro_holdNumber 2 [.inr 6, .inl r, .inl f, .inl x] n M none (up M 8 ((r - 1) * 4 + f) x) := by
  refine AM_intro (by decide) (Nat.le_of_ble_eq_true rfl) (fun X b0 D hC _ => ?_)
  show AW X b0 D true 0 0 _ n M 0 [some (.inr 6), some (.inl r), some (.inl f), some (.inl x)] []
  refine A_ald0 hC d_Ro_holdNumber_0 ?_
  refine A_getCR (v := 8) hC d_Ro_holdNumber_1 fF_Ro_15 ⟨by decide, rfl⟩ ly_6 (by omega) ⟨rfl, by decide⟩ cv_6_1 ?_
  refine A_ild1 hC d_Ro_holdNumber_4 ?_
  refine A_ild2 hC d_Ro_holdNumber_5 ?_
  refine A_SF1 (as := [.inl r, .inl f]) hC d_Ro_holdNumber_6 mv_Ro_cellOf lk_Ro_36 (by decide) (k_Ro_cellOf l n M hn r f (by omega) (by omega)) rfl rfl (Nat.le_of_ble_eq_true rfl) ⟨Nat.zero_le _, Nat.zero_le _⟩ rfl ?_
  refine A_ild3 hC d_Ro_holdNumber_9 ?_
  refine A_iast hC d_Ro_holdNumber_10 ly_8 (by omega) (by omega) (fun _ => kk_i _) ?_
  refine A_vret hC d_Ro_holdNumber_11 rfl (Nat.le_refl _) (Nat.le_refl _) ?_
  exact ⟨rfl, rfl, rfl⟩
set_option maxHeartbeats 4000000 in
theorem k_Ro_numberOf (l : Launch) (n : Nat) (M : Mem) (hn : 117 ≤ n) (r f : Int) (hr : 1 ≤ r ∧ r ≤ 12) (hf : 0 ≤ f ∧ f ≤ 3) : AF l m_Ro_numberOf 2 [.inr 6, .inl r, .inl f] n M (some (.inl (M 8 ((r - 1) * 4 + f)))) M := by
  refine AM_intro (by decide) (Nat.le_of_ble_eq_true rfl) (fun X b0 D hC _ => ?_)
  show AW X b0 D true 0 0 _ n M 0 [some (.inr 6), some (.inl r), some (.inl f)] []
  refine A_ald0 hC d_Ro_numberOf_0 ?_
  refine A_getCR (v := 8) hC d_Ro_numberOf_1 fF_Ro_15 ⟨by decide, rfl⟩ ly_6 (by omega) ⟨rfl, by decide⟩ cv_6_1 ?_
  refine A_ild1 hC d_Ro_numberOf_4 ?_
  refine A_ild2 hC d_Ro_numberOf_5 ?_
  refine A_SF1 (as := [.inl r, .inl f]) hC d_Ro_numberOf_6 mv_Ro_cellOf lk_Ro_36 (by decide) (k_Ro_cellOf l n M hn r f (by omega) (by omega)) rfl rfl (Nat.le_of_ble_eq_true rfl) ⟨Nat.zero_le _, Nat.zero_le _⟩ rfl ?_
  refine A_iald hC d_Ro_numberOf_9 ly_8 (by omega) (by omega) ?_
  refine A_iret hC d_Ro_numberOf_10 rfl (Nat.le_refl _) (Nat.le_refl _) ?_
  exact ⟨rfl, rfl, rfl⟩
set_option maxHeartbeats 4000000 in
theorem k_Ro_linkedCount (l : Launch) (n : Nat) (M : Mem) (hn : 117 ≤ n) (r f : Int) (hr : 1 ≤ r ∧ r ≤ 12) (hf : 0 ≤ f ∧ f ≤ 3) : AF l m_Ro_linkedCount 2 [.inr 6, .inl r, .inl f] n M (some (.inl (M 9 ((r - 1) * 4 + f)))) M := by
  refine AM_intro (by decide) (Nat.le_of_ble_eq_true rfl) (fun X b0 D hC _ => ?_)
  show AW X b0 D true 0 0 _ n M 0 [some (.inr 6), some (.inl r), some (.inl f)] []
  refine A_ald0 hC d_Ro_linkedCount_0 ?_
  refine A_getCR (v := 9) hC d_Ro_linkedCount_1 fF_Ro_18 ⟨by decide, rfl⟩ ly_6 (by omega) ⟨rfl, by decide⟩ cv_6_2 ?_
  refine A_ild1 hC d_Ro_linkedCount_4 ?_
  refine A_ild2 hC d_Ro_linkedCount_5 ?_
  refine A_SF1 (as := [.inl r, .inl f]) hC d_Ro_linkedCount_6 mv_Ro_cellOf lk_Ro_36 (by decide) (k_Ro_cellOf l n M hn r f (by omega) (by omega)) rfl rfl (Nat.le_of_ble_eq_true rfl) ⟨Nat.zero_le _, Nat.zero_le _⟩ rfl ?_
  refine A_iald hC d_Ro_linkedCount_9 ly_9 (by omega) (by omega) ?_
  refine A_iret hC d_Ro_linkedCount_10 rfl (Nat.le_refl _) (Nat.le_refl _) ?_
  exact ⟨rfl, rfl, rfl⟩
set_option maxHeartbeats 4000000 in
theorem k_Ro_linkedRow (l : Launch) (n : Nat) (M : Mem) (hn : 117 ≤ n) (r f j : Int) (hr : 1 ≤ r ∧ r ≤ 12) (hf : 0 ≤ f ∧ f ≤ 3) (hj : 0 ≤ j ∧ j ≤ 3) : AF l m_Ro_linkedRow 2 [.inr 6, .inl r, .inl f, .inl j] n M (some (.inl (M 10 (((r - 1) * 4 + f) * 4 + j)))) M := by
  refine AM_intro (by decide) (Nat.le_of_ble_eq_true rfl) (fun X b0 D hC _ => ?_)
  show AW X b0 D true 0 0 _ n M 0 [some (.inr 6), some (.inl r), some (.inl f), some (.inl j)] []
  refine A_ald0 hC d_Ro_linkedRow_0 ?_
  refine A_getCR (v := 10) hC d_Ro_linkedRow_1 fF_Ro_21 ⟨by decide, rfl⟩ ly_6 (by omega) ⟨rfl, by decide⟩ cv_6_3 ?_
  refine A_ild1 hC d_Ro_linkedRow_4 ?_
  refine A_ild2 hC d_Ro_linkedRow_5 ?_
  refine A_SF1 (as := [.inl r, .inl f]) hC d_Ro_linkedRow_6 mv_Ro_cellOf lk_Ro_36 (by decide) (k_Ro_cellOf l n M hn r f (by omega) (by omega)) rfl rfl (Nat.le_of_ble_eq_true rfl) ⟨Nat.zero_le _, Nat.zero_le _⟩ rfl ?_
  refine A_iconst hC d_Ro_linkedRow_9 (by decide) ?_
  refine A_imul hC d_Ro_linkedRow_10 (by omega) ?_
  refine A_ild3 hC d_Ro_linkedRow_11 ?_
  refine A_iadd hC d_Ro_linkedRow_12 (by omega) ?_
  refine A_iald hC d_Ro_linkedRow_13 ly_10 (by omega) (by omega) ?_
  refine A_iret hC d_Ro_linkedRow_14 rfl (Nat.le_refl _) (Nat.le_refl _) ?_
  exact ⟨rfl, rfl, rfl⟩
set_option maxHeartbeats 4000000 in
theorem k_Ro_addLinked (l : Launch) (n : Nat) (M : Mem) (hn : 117 ≤ n) (r f x : Int) (hr : 1 ≤ r ∧ r ≤ 12) (hf : 0 ≤ f ∧ f ≤ 3) (hj : 0 ≤ M 9 ((r - 1) * 4 + f) ∧ M 9 ((r - 1) * 4 + f) ≤ 3) : AF l m_Ro_addLinked 2 [.inr 6, .inl r, .inl f, .inl x] n M (some (.inl (M 9 ((r - 1) * 4 + f) + 1))) (up (up M 10 (((r - 1) * 4 + f) * 4 + M 9 ((r - 1) * 4 + f)) x) 9 ((r - 1) * 4 + f) (M 9 ((r - 1) * 4 + f) + 1)) := by
  refine AM_intro (by decide) (Nat.le_of_ble_eq_true rfl) (fun X b0 D hC _ => ?_)
  show AW X b0 D true 0 0 _ n M 0 [some (.inr 6), some (.inl r), some (.inl f), some (.inl x), none] []
  refine A_ild1 hC d_Ro_addLinked_0 ?_
  refine A_ild2 hC d_Ro_addLinked_1 ?_
  refine A_SF1 (as := [.inl r, .inl f]) hC d_Ro_addLinked_2 mv_Ro_cellOf lk_Ro_36 (by decide) (k_Ro_cellOf l n M hn r f (by omega) (by omega)) rfl rfl (Nat.le_of_ble_eq_true rfl) ⟨Nat.zero_le _, Nat.zero_le _⟩ rfl ?_
  refine A_ist4 hC d_Ro_addLinked_5 ?_
  refine A_ald0 hC d_Ro_addLinked_7 ?_
  refine A_getCR (v := 10) hC d_Ro_addLinked_8 fF_Ro_21 ⟨by decide, rfl⟩ ly_6 (by omega) ⟨rfl, by decide⟩ cv_6_3 ?_
  refine A_ild4 hC d_Ro_addLinked_11 ?_
  refine A_iconst hC d_Ro_addLinked_13 (by decide) ?_
  refine A_imul hC d_Ro_addLinked_14 (by omega) ?_
  refine A_ald0 hC d_Ro_addLinked_15 ?_
  refine A_getCR (v := 9) hC d_Ro_addLinked_16 fF_Ro_18 ⟨by decide, rfl⟩ ly_6 (by omega) ⟨rfl, by decide⟩ cv_6_2 ?_
  refine A_ild4 hC d_Ro_addLinked_19 ?_
  refine A_iald hC d_Ro_addLinked_21 ly_9 (by omega) (by omega) ?_
  refine A_iadd hC d_Ro_addLinked_22 (by omega) ?_
  refine A_ild3 hC d_Ro_addLinked_23 ?_
  refine A_iast hC d_Ro_addLinked_24 ly_10 (by omega) (by omega) (fun _ => kk_i _) ?_
  refine A_ald0 hC d_Ro_addLinked_25 ?_
  refine A_getCR (v := 9) hC d_Ro_addLinked_26 fF_Ro_18 ⟨by decide, rfl⟩ ly_6 (by omega) ⟨rfl, by decide⟩ cv_6_2 ?_
  refine A_ild4 hC d_Ro_addLinked_29 ?_
  refine A_dup2 hC d_Ro_addLinked_31 ?_
  refine A_ialdE (x := M 9 ((r - 1) * 4 + f)) hC d_Ro_addLinked_32 ly_9 (by omega) (by omega) (by rw [up_nc (c := 10) (c' := 9) (by decide)]) ?_
  refine A_iconst hC d_Ro_addLinked_33 (by decide) ?_
  refine A_iadd hC d_Ro_addLinked_34 (by omega) ?_
  refine A_iast hC d_Ro_addLinked_35 ly_9 (by omega) (by omega) (fun _ => kk_i _) ?_
  refine A_ald0 hC d_Ro_addLinked_36 ?_
  refine A_getCR (v := 9) hC d_Ro_addLinked_37 fF_Ro_18 ⟨by decide, rfl⟩ ly_6 (by omega) ⟨rfl, by decide⟩ cv_6_2 ?_
  refine A_ild4 hC d_Ro_addLinked_40 ?_
  refine A_ialdE (x := (M 9 ((r - 1) * 4 + f)) + 1) hC d_Ro_addLinked_42 ly_9 (by omega) (by omega) (by rw [up_eq]) ?_
  refine A_iret hC d_Ro_addLinked_43 rfl (Nat.le_refl _) (Nat.le_refl _) ?_
  exact ⟨rfl, rfl, rfl⟩
set_option maxHeartbeats 4000000 in
theorem k_Te_addToken (l : Launch) (n : Nat) (M : Mem) (hn : 117 ≤ n) (t o a b : Int) (ht : 0 ≤ t ∧ t ≤ 3) (hl : 0 ≤ M 12 t ∧ M 12 t ≤ 15) : AF l m_Te_addToken 1 [.inr 11, .inl t, .inl o, .inl a, .inl b] n M (some (.inl (M 12 t + 1))) (up (up (up (up M 13 (t * 16 + M 12 t) o) 14 (t * 16 + M 12 t) a) 15 (t * 16 + M 12 t) b) 12 t (M 12 t + 1)) := by
  refine AM_intro (by decide) (Nat.le_of_ble_eq_true rfl) (fun X b0 D hC _ => ?_)
  show AW X b0 D true 0 0 _ n M 0 [some (.inr 11), some (.inl t), some (.inl o), some (.inl a), some (.inl b), none] []
  refine A_ild1 hC d_Te_addToken_0 ?_
  refine A_bipush hC d_Te_addToken_1 (by decide) (by decide) ?_
  refine A_imul hC d_Te_addToken_3 (by omega) ?_
  refine A_ald0 hC d_Te_addToken_4 ?_
  refine A_getCR (v := 12) hC d_Te_addToken_5 fF_Te_9 ⟨by decide, rfl⟩ ly_11 (by omega) ⟨rfl, by decide⟩ cv_11_0 ?_
  refine A_ild1 hC d_Te_addToken_8 ?_
  refine A_iald hC d_Te_addToken_9 ly_12 (by omega) (by omega) ?_
  refine A_iadd hC d_Te_addToken_10 (by omega) ?_
  refine A_ist5 hC d_Te_addToken_11 ?_
  refine A_ald0 hC d_Te_addToken_13 ?_
  refine A_getCR (v := 13) hC d_Te_addToken_14 fF_Te_15 ⟨by decide, rfl⟩ ly_11 (by omega) ⟨rfl, by decide⟩ cv_11_1 ?_
  refine A_ild5 hC d_Te_addToken_17 ?_
  refine A_ild2 hC d_Te_addToken_19 ?_
  refine A_iast hC d_Te_addToken_20 ly_13 (by omega) (by omega) (fun _ => kk_i _) ?_
  refine A_ald0 hC d_Te_addToken_21 ?_
  refine A_getCR (v := 14) hC d_Te_addToken_22 fF_Te_18 ⟨by decide, rfl⟩ ly_11 (by omega) ⟨rfl, by decide⟩ cv_11_2 ?_
  refine A_ild5 hC d_Te_addToken_25 ?_
  refine A_ild3 hC d_Te_addToken_27 ?_
  refine A_iast hC d_Te_addToken_28 ly_14 (by omega) (by omega) (fun _ => kk_i _) ?_
  refine A_ald0 hC d_Te_addToken_29 ?_
  refine A_getCR (v := 15) hC d_Te_addToken_30 fF_Te_21 ⟨by decide, rfl⟩ ly_11 (by omega) ⟨rfl, by decide⟩ cv_11_3 ?_
  refine A_ild5 hC d_Te_addToken_33 ?_
  refine A_ild4 hC d_Te_addToken_35 ?_
  refine A_iast hC d_Te_addToken_37 ly_15 (by omega) (by omega) (fun _ => kk_i _) ?_
  refine A_ald0 hC d_Te_addToken_38 ?_
  refine A_getCR (v := 12) hC d_Te_addToken_39 fF_Te_9 ⟨by decide, rfl⟩ ly_11 (by omega) ⟨rfl, by decide⟩ cv_11_0 ?_
  refine A_ild1 hC d_Te_addToken_42 ?_
  refine A_dup2 hC d_Te_addToken_43 ?_
  refine A_ialdE (x := M 12 t) hC d_Te_addToken_44 ly_12 (by omega) (by omega) (by rw [up_nc (c := 15) (c' := 12) (by decide), up_nc (c := 14) (c' := 12) (by decide), up_nc (c := 13) (c' := 12) (by decide)]) ?_
  refine A_iconst hC d_Te_addToken_45 (by decide) ?_
  refine A_iadd hC d_Te_addToken_46 (by omega) ?_
  refine A_iast hC d_Te_addToken_47 ly_12 (by omega) (by omega) (fun _ => kk_i _) ?_
  refine A_ald0 hC d_Te_addToken_48 ?_
  refine A_getCR (v := 12) hC d_Te_addToken_49 fF_Te_9 ⟨by decide, rfl⟩ ly_11 (by omega) ⟨rfl, by decide⟩ cv_11_0 ?_
  refine A_ild1 hC d_Te_addToken_52 ?_
  refine A_ialdE (x := (M 12 t) + 1) hC d_Te_addToken_53 ly_12 (by omega) (by omega) (by rw [up_eq]) ?_
  refine A_iret hC d_Te_addToken_54 rfl (Nat.le_refl _) (Nat.le_refl _) ?_
  exact ⟨rfl, rfl, rfl⟩
set_option maxHeartbeats 4000000 in
theorem k_St_isEntry (l : Launch) (n : Nat) (M : Mem) (hn : 117 ≤ n) (s : Int) (hs : 20 ≤ s ∧ s < 81) : AF l m_St_isEntry 1 [.inr s] n M (some (.inl (if M s 1 = 0 ∨ M s 1 = 1 ∨ M s 1 = 2 then 1 else 0))) M := by
  refine AM_intro (by decide) (Nat.le_of_ble_eq_true rfl) (fun X b0 D hC _ => ?_)
  show AW X b0 D true 0 0 _ n M 0 [some (.inr s)] []
  refine A_ald0 hC d_St_isEntry_0 ?_
  refine A_getI (kI := 1) hC d_St_isEntry_1 fF_St_15 ⟨by decide, rfl⟩ rfl (ly_S (by omega)) (by omega) ?_
  refine A_ifeq (tgt := 23) hC d_St_isEntry_4 (by decide) (fun h4 => ?_) (fun h4 => ?_)
  · refine A_iconst hC d_St_isEntry_23 (by decide) ?_
    refine A_goto (tgt := 28) hC d_St_isEntry_24 (by decide) ?_
    refine A_zret hC d_St_isEntry_28 rfl (Nat.le_refl _) (Nat.le_refl _) (by first | decide | omega) ?_
    exact ⟨fx_r (by split <;> omega), rfl, rfl⟩
  · refine A_ald0 hC d_St_isEntry_7 ?_
    refine A_getI (kI := 1) hC d_St_isEntry_8 fF_St_15 ⟨by decide, rfl⟩ rfl (ly_S (by omega)) (by omega) ?_
    refine A_iconst hC d_St_isEntry_11 (by decide) ?_
    refine A_icmpeq (tgt := 23) hC d_St_isEntry_12 (by decide) (fun h12 => ?_) (fun h12 => ?_)
    · refine A_iconst hC d_St_isEntry_23 (by decide) ?_
      refine A_goto (tgt := 28) hC d_St_isEntry_24 (by decide) ?_
      refine A_zret hC d_St_isEntry_28 rfl (Nat.le_refl _) (Nat.le_refl _) (by first | decide | omega) ?_
      exact ⟨fx_r (by split <;> omega), rfl, rfl⟩
    · refine A_ald0 hC d_St_isEntry_15 ?_
      refine A_getI (kI := 1) hC d_St_isEntry_16 fF_St_15 ⟨by decide, rfl⟩ rfl (ly_S (by omega)) (by omega) ?_
      refine A_iconst hC d_St_isEntry_19 (by decide) ?_
      refine A_icmpne (tgt := 27) hC d_St_isEntry_20 (by decide) (fun h20 => ?_) (fun h20 => ?_)
      · refine A_iconst hC d_St_isEntry_27 (by decide) ?_
        refine A_zret hC d_St_isEntry_28 rfl (Nat.le_refl _) (Nat.le_refl _) (by first | decide | omega) ?_
        exact ⟨fx_r (by split <;> omega), rfl, rfl⟩
      · refine A_iconst hC d_St_isEntry_23 (by decide) ?_
        refine A_goto (tgt := 28) hC d_St_isEntry_24 (by decide) ?_
        refine A_zret hC d_St_isEntry_28 rfl (Nat.le_refl _) (Nat.le_refl _) (by first | decide | omega) ?_
        exact ⟨fx_r (by split <;> omega), rfl, rfl⟩
set_option maxHeartbeats 4000000 in
theorem k_Pa_forgetAll (l : Launch) (n : Nat) (M : Mem) (hn : 117 ≤ n) : AF l m_Pa_forgetAll 1 [.inr 83] n M none (up (up M 83 3 0) 83 4 0) := by
  refine AM_intro (by decide) (Nat.le_of_ble_eq_true rfl) (fun X b0 D hC _ => ?_)
  show AW X b0 D true 0 0 _ n M 0 [some (.inr 83)] []
  refine A_ald0 hC d_Pa_forgetAll_0 ?_
  refine A_iconst hC d_Pa_forgetAll_1 (by decide) ?_
  refine A_putI (kI := 3) hC d_Pa_forgetAll_2 fP_Pa_21 ⟨by decide, rfl⟩ rfl ly_83 (by omega) (fun _ => by decide) ?_
  refine A_ald0 hC d_Pa_forgetAll_5 ?_
  refine A_iconst hC d_Pa_forgetAll_6 (by decide) ?_
  refine A_putI (kI := 4) hC d_Pa_forgetAll_7 fP_Pa_25 ⟨by decide, rfl⟩ rfl ly_83 (by omega) (fun _ => by decide) ?_
  refine A_vret hC d_Pa_forgetAll_10 rfl (Nat.le_refl _) (Nat.le_refl _) ?_
  exact ⟨rfl, rfl, rfl⟩
set_option maxHeartbeats 4000000 in
theorem k_As_forget (l : Launch) (n : Nat) (M : Mem) (hn : 117 ≤ n) : AF l m_As_forget 2 [.inr 81] n M none (up (up (up M 81 4 0) 83 3 0) 83 4 0) := by
  refine AM_intro (by decide) (Nat.le_of_ble_eq_true rfl) (fun X b0 D hC _ => ?_)
  show AW X b0 D true 0 0 _ n M 0 [some (.inr 81)] []
  refine A_ald0 hC d_As_forget_0 ?_
  refine A_iconst hC d_As_forget_1 (by decide) ?_
  refine A_putI (kI := 4) hC d_As_forget_2 fP_As_30 ⟨by decide, rfl⟩ rfl ly_81 (by omega) (fun _ => by decide) ?_
  refine A_ald0 hC d_As_forget_5 ?_
  refine A_getCR (v := 83) hC d_As_forget_6 fF_As_12 ⟨by decide, rfl⟩ ly_81 (by omega) ⟨rfl, by decide⟩ cv_81_2 ?_
  refine A_VF0 (as := []) hC d_As_forget_9 mv_Pa_forgetAll lk_As_34 (by decide) sel_Pa_forgetAll hq_Pa ly_83 (by omega) (k_Pa_forgetAll l n (up M 81 4 0) hn) rfl rfl (Nat.le_of_ble_eq_true rfl) ⟨Nat.zero_le _, Nat.zero_le _⟩ rfl ?_
  refine A_vret hC d_As_forget_12 rfl (Nat.le_refl _) (Nat.le_refl _) ?_
  exact ⟨rfl, rfl, rfl⟩
def goI (M : Mem) (p : Int) : Mem := if M 83 3 < 26 then up (up M 84 (M 83 3) p) 83 3 (M 83 3 + 1) else M
set_option maxHeartbeats 4000000 in
theorem k_Pa_goInto (l : Launch) (n : Nat) (M : Mem) (hn : 117 ≤ n) (p : Int) (hh : 0 ≤ M 83 3 ∧ M 83 3 ≤ 26) : AF l m_Pa_goInto 1 [.inr 83, .inl p] n M none (goI M p) := by
  refine AM_intro (by decide) (Nat.le_of_ble_eq_true rfl) (fun X b0 D hC _ => ?_)
  show AW X b0 D true 0 0 _ n M 0 [some (.inr 83), some (.inl p)] []
  refine A_ald0 hC d_Pa_goInto_0 ?_
  refine A_getI (kI := 3) hC d_Pa_goInto_1 fF_Pa_21 ⟨by decide, rfl⟩ rfl ly_83 (by omega) ?_
  refine A_bipush hC d_Pa_goInto_4 (by decide) (by decide) ?_
  refine A_icmpge (tgt := 29) hC d_Pa_goInto_6 (by decide) (fun h6 => ?_) (fun h6 => ?_)
  · refine A_vret hC d_Pa_goInto_29 rfl (Nat.le_refl _) (Nat.le_refl _) ?_
    exact ⟨rfl, rfl, by unfold goI; first | rw [if_pos (by omega)] | rw [if_neg (by omega)]⟩
  · refine A_ald0 hC d_Pa_goInto_9 ?_
    refine A_getCR (v := 84) hC d_Pa_goInto_10 fF_Pa_9 ⟨by decide, rfl⟩ ly_83 (by omega) ⟨rfl, by decide⟩ cv_83_0 ?_
    refine A_ald0 hC d_Pa_goInto_13 ?_
    refine A_getI (kI := 3) hC d_Pa_goInto_14 fF_Pa_21 ⟨by decide, rfl⟩ rfl ly_83 (by omega) ?_
    refine A_ild1 hC d_Pa_goInto_17 ?_
    refine A_iast hC d_Pa_goInto_18 ly_84 (by omega) (by omega) (fun _ => kk_i _) ?_
    refine A_ald0 hC d_Pa_goInto_19 ?_
    refine A_dup hC d_Pa_goInto_20 ?_
    refine A_getIE (x := M 83 3) (kI := 3) hC d_Pa_goInto_21 fF_Pa_21 ⟨by decide, rfl⟩ rfl ly_83 (by omega) (by rw [up_nc (c := 84) (c' := 83) (by decide)]) ?_
    refine A_iconst hC d_Pa_goInto_24 (by decide) ?_
    refine A_iadd hC d_Pa_goInto_25 (by omega) ?_
    refine A_putI (kI := 3) hC d_Pa_goInto_26 fP_Pa_21 ⟨by decide, rfl⟩ rfl ly_83 (by omega) (fun _ => by decide) ?_
    refine A_vret hC d_Pa_goInto_29 rfl (Nat.le_refl _) (Nat.le_refl _) ?_
    exact ⟨rfl, rfl, by unfold goI; first | rw [if_pos (by omega)] | rw [if_neg (by omega)]⟩
def goO (M : Mem) : Mem := up M 83 3 (if 0 < M 83 3 - 1 then M 83 3 - 1 else 0)
set_option maxHeartbeats 4000000 in
theorem k_Pa_goOut (l : Launch) (n : Nat) (M : Mem) (hn : 117 ≤ n) (hh : 0 ≤ M 83 3 ∧ M 83 3 ≤ 26) : AF l m_Pa_goOut 1 [.inr 83] n M none (goO M) := by
  refine AM_intro (by decide) (Nat.le_of_ble_eq_true rfl) (fun X b0 D hC _ => ?_)
  show AW X b0 D true 0 0 _ n M 0 [some (.inr 83)] []
  refine A_ald0 hC d_Pa_goOut_0 ?_
  refine A_iconst hC d_Pa_goOut_1 (by decide) ?_
  refine A_ald0 hC d_Pa_goOut_2 ?_
  refine A_getI (kI := 3) hC d_Pa_goOut_3 fF_Pa_21 ⟨by decide, rfl⟩ rfl ly_83 (by omega) ?_
  refine A_iconst hC d_Pa_goOut_6 (by decide) ?_
  refine A_isub hC d_Pa_goOut_7 (by omega) ?_
  refine A_mmax hC d_Pa_goOut_8 lk_Pa_28 zs_max zi_Math zc_max (by decide) (Nat.le_of_ble_eq_true rfl) ⟨Nat.zero_le _, Nat.zero_le _⟩ rfl ?_
  refine A_putI (kI := 3) hC d_Pa_goOut_11 fP_Pa_21 ⟨by decide, rfl⟩ rfl ly_83 (by omega) (fun _ => by decide) ?_
  refine A_vret hC d_Pa_goOut_14 rfl (Nat.le_refl _) (Nat.le_refl _) ?_
  exact ⟨rfl, rfl, rfl⟩
def ntH (M : Mem) : Mem := if M 83 4 < 60 then up (up (cpy M 84 0 86 (M 83 4 * 26) (M 83 3)) 85 (M 83 4) (M 83 3)) 83 4 (M 83 4 + 1) else M
set_option maxHeartbeats 4000000 in
theorem k_As_cutBack (l : Launch) (n : Nat) (M : Mem) (hn : 117 ≤ n) (s : Int) (hs : 0 ≤ s ∧ s < 120) : AF l m_As_cutBack 1 [.inr 81, .inl s] n M none (up (up M 87 s 1) 81 4 (s + 1)) := by
  refine AM_intro (by decide) (Nat.le_of_ble_eq_true rfl) (fun X b0 D hC _ => ?_)
  show AW X b0 D true 0 0 _ n M 0 [some (.inr 81), some (.inl s)] []
  refine A_ald0 hC d_As_cutBack_0 ?_
  refine A_getCR (v := 87) hC d_As_cutBack_1 fF_As_18 ⟨by decide, rfl⟩ ly_81 (by omega) ⟨rfl, by decide⟩ cv_81_3 ?_
  refine A_ild1 hC d_As_cutBack_4 ?_
  refine A_iconst hC d_As_cutBack_5 (by decide) ?_
  refine A_iast hC d_As_cutBack_6 ly_87 (by omega) (by omega) (fun _ => kk_i _) ?_
  refine A_ald0 hC d_As_cutBack_7 ?_
  refine A_ild1 hC d_As_cutBack_8 ?_
  refine A_iconst hC d_As_cutBack_9 (by decide) ?_
  refine A_iadd hC d_As_cutBack_10 (by omega) ?_
  refine A_putI (kI := 4) hC d_As_cutBack_11 fP_As_30 ⟨by decide, rfl⟩ rfl ly_81 (by omega) (fun _ => by decide) ?_
  refine A_vret hC d_As_cutBack_14 rfl (Nat.le_refl _) (Nat.le_refl _) ?_
  exact ⟨rfl, rfl, rfl⟩
def adC (M : Mem) (c : Int) : Mem := if ¬ M 81 6 = 0 then M else if 120 ≤ M 81 5 then up M 81 6 (-5) else up (up (up M 81 5 (M 81 5 + 1)) 87 (M 81 4) c) 81 4 (M 81 4 + 1)
set_option maxHeartbeats 4000000 in
theorem k_As_addCode (l : Launch) (n : Nat) (M : Mem) (hn : 117 ≤ n) (c : Int) (hc : 0 ≤ M 81 4 ∧ M 81 4 ≤ M 81 5 ∧ M 81 5 ≤ 120) : AF l m_As_addCode 1 [.inr 81, .inl c] n M none (adC M c) := by
  refine AM_intro (by decide) (Nat.le_of_ble_eq_true rfl) (fun X b0 D hC _ => ?_)
  show AW X b0 D true 0 0 _ n M 0 [some (.inr 81), some (.inl c)] []
  refine A_ald0 hC d_As_addCode_0 ?_
  refine A_getI (kI := 6) hC d_As_addCode_1 fF_As_43 ⟨by decide, rfl⟩ rfl ly_81 (by omega) ?_
  refine A_ifeq (tgt := 8) hC d_As_addCode_4 (by decide) (fun h4 => ?_) (fun h4 => ?_)
  · refine A_ald0 hC d_As_addCode_8 ?_
    refine A_getI (kI := 5) hC d_As_addCode_9 fF_As_40 ⟨by decide, rfl⟩ rfl ly_81 (by omega) ?_
    refine A_bipush hC d_As_addCode_12 (by decide) (by decide) ?_
    refine A_icmplt (tgt := 24) hC d_As_addCode_14 (by decide) (fun h14 => ?_) (fun h14 => ?_)
    · refine A_ald0 hC d_As_addCode_24 ?_
      refine A_dup hC d_As_addCode_25 ?_
      refine A_getI (kI := 5) hC d_As_addCode_26 fF_As_40 ⟨by decide, rfl⟩ rfl ly_81 (by omega) ?_
      refine A_iconst hC d_As_addCode_29 (by decide) ?_
      refine A_iadd hC d_As_addCode_30 (by omega) ?_
      refine A_putI (kI := 5) hC d_As_addCode_31 fP_As_40 ⟨by decide, rfl⟩ rfl ly_81 (by omega) (fun _ => by decide) ?_
      refine A_ald0 hC d_As_addCode_34 ?_
      refine A_getCR (v := 87) hC d_As_addCode_35 fF_As_18 ⟨by decide, rfl⟩ ly_81 (by omega) ⟨rfl, by decide⟩ cv_81_3 ?_
      refine A_ald0 hC d_As_addCode_38 ?_
      refine A_getIE (x := M 81 4) (kI := 4) hC d_As_addCode_39 fF_As_30 ⟨by decide, rfl⟩ rfl ly_81 (by omega) (by rw [up_nk (k := 5) (k' := 4) (by decide)]) ?_
      refine A_ild1 hC d_As_addCode_42 ?_
      refine A_iast hC d_As_addCode_43 ly_87 (by omega) (by omega) (fun _ => kk_i _) ?_
      refine A_ald0 hC d_As_addCode_44 ?_
      refine A_dup hC d_As_addCode_45 ?_
      refine A_getIE (x := M 81 4) (kI := 4) hC d_As_addCode_46 fF_As_30 ⟨by decide, rfl⟩ rfl ly_81 (by omega) (by rw [up_nc (c := 87) (c' := 81) (by decide), up_nk (k := 5) (k' := 4) (by decide)]) ?_
      refine A_iconst hC d_As_addCode_49 (by decide) ?_
      refine A_iadd hC d_As_addCode_50 (by omega) ?_
      refine A_putI (kI := 4) hC d_As_addCode_51 fP_As_30 ⟨by decide, rfl⟩ rfl ly_81 (by omega) (fun _ => by decide) ?_
      refine A_vret hC d_As_addCode_54 rfl (Nat.le_refl _) (Nat.le_refl _) ?_
      exact ⟨rfl, rfl, by unfold adC; first | rw [if_pos (by omega)] | rw [if_neg (by omega), if_pos (by omega)] | rw [if_neg (by omega), if_neg (by omega)]⟩
    · refine A_ald0 hC d_As_addCode_17 ?_
      refine A_bipush hC d_As_addCode_18 (by decide) (by decide) ?_
      refine A_putI (kI := 6) hC d_As_addCode_20 fP_As_43 ⟨by decide, rfl⟩ rfl ly_81 (by omega) (fun _ => by decide) ?_
      refine A_vret hC d_As_addCode_23 rfl (Nat.le_refl _) (Nat.le_refl _) ?_
      exact ⟨rfl, rfl, by unfold adC; first | rw [if_pos (by omega)] | rw [if_neg (by omega), if_pos (by omega)] | rw [if_neg (by omega), if_neg (by omega)]⟩
  · refine A_vret hC d_As_addCode_7 rfl (Nat.le_refl _) (Nat.le_refl _) ?_
    exact ⟨rfl, rfl, by unfold adC; first | rw [if_pos (by omega)] | rw [if_neg (by omega), if_pos (by omega)] | rw [if_neg (by omega), if_neg (by omega)]⟩
