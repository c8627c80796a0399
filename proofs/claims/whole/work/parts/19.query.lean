theorem wO_01 : ∀ (f : Nat) (M : Mem) (t i s : Int), (wO f M t i s).1 = 0 ∨ (wO f M t i s).1 = 1
  | 0, _, _, _, _ => Or.inl rfl
  | f + 1, M, t, i, s => by
    unfold wO
    repeat (first | exact wO_01 f _ _ _ _ | exact Or.inl rfl | exact Or.inr rfl | split)
def wQ0 (M : Mem) (t : Int) : Mem := up (up (up (up (up (up (up M 19 0 0) 19 (0 + 1) 0) 19 (0 + 1 + 1) 0) 19 (0 + 1 + 1 + 1) 0) 20 5 t) 17 4 1) 17 5 (-1)
/-- the query written out for the type t: 1 or 0, and the cells -/
noncomputable def wQ (M : Mem) (t : Int) : Int × Mem := if gd (M 13) (M 12) 0 = 0 then (0, up M 17 5 0) else wO 61 (up (wQ0 M t) 19 0 1) 0 0 20
theorem wQ0_n {M : Mem} {t c j : Int} (h19 : c ≠ 19) (h20 : c ≠ 20 ∨ j ≠ 5) (h17 : c ≠ 17 ∨ (j ≠ 4 ∧ j ≠ 5)) : wQ0 M t c j = M c j := by
  unfold wQ0
  have e1 : ∀ (N : Mem) (v : Int), up N 17 5 v c j = N c j := fun N v => h17.elim (fun h => up_nc h) (fun h => up_nk h.2)
  have e2 : ∀ (N : Mem) (v : Int), up N 17 4 v c j = N c j := fun N v => h17.elim (fun h => up_nc h) (fun h => up_nk h.1)
  have e3 : ∀ (N : Mem) (v : Int), up N 20 5 v c j = N c j := fun N v => h20.elim (fun h => up_nc h) (fun h => up_nk h)
  rw [e1, e2, e3, up_nc h19, up_nc h19, up_nc h19, up_nc h19]
theorem wQ0_z {M : Mem} {t : Int} : wQ0 M t 17 4 = 1 := by
  unfold wQ0
  rw [up_nk (by decide), up_eq]
/-- what holds of the texts and of step 0 before the query is written out -/
def WP (M : Mem) : Prop := SC M ∧ TX M ∧ (∀ k : Int, M 13 k = 5 → 0 ≤ M 14 k ∧ M 14 k ≤ 3) ∧ M 20 4 = 20
theorem WI_Q {M : Mem} {t : Int} (h : WP M) : WI (wQ0 M t) := by
  have e : ∀ c j : Int, c < 16 → wQ0 M t c j = M c j := fun c j hc => wQ0_n (by omega) (Or.inl (by omega)) (Or.inl (by omega))
  refine ⟨SC_of h.1 e, TX_of h.2.1 e, fun k => ?_, by rw [wQ0_z]; omega, fun c b1 b2 => ?_⟩
  · rw [e 13 _ (by decide), e 14 _ (by decide)]; exact h.2.2.1 k
  · rw [wQ0_z] at b2 ⊢
    have : c = 20 := by omega
    subst this
    rw [wQ0_n (by decide) (Or.inr (by decide)) (Or.inl (by decide)), h.2.2.2]
    omega
set_option maxHeartbeats 4000000 in
theorem k_Pl_writeOutQuery (l : Launch) (n : Nat) (M : Mem) (hn : 117 ≤ n) (hP : WP M) (t : Int) : AF l m_Pl_writeOutQuery 69 [.inr 17, .inl t] n M (some (.inl ((wQ M t).1))) ((wQ M t).2) := by
  refine AM_intro (by decide) (Nat.le_of_ble_eq_true rfl) (fun X b0 D hC _ => ?_)
  show AW X b0 D true 0 0 (fx_Q X b0 D true 0 0 (fun r' n' M' => r' = (some (.inl ((wQ M t).1))) ∧ n' = n ∧ M' = ((wQ M t).2))) n M 0 [some (.inr 17), some (.inl t), none] []
  have hT := hP.2.1
  refine A_ald0 hC d_Pl_writeOutQuery_0 ?_
  refine A_getCR (v := 11) hC d_Pl_writeOutQuery_1 fF_Pl_29 ⟨by decide, rfl⟩ ly_17 (by omega) ⟨rfl, by decide⟩ cv_17_1 ?_
  refine A_iconst hC d_Pl_writeOutQuery_4 (by decide) ?_
  refine A_VF1 (as := [.inl 0]) hC d_Pl_writeOutQuery_5 mv_Te_isGood lk_Pl_43 (by decide) sel_Te_isGood hq_Te ly_11 (by omega) (k_Te_isGood l n M hn hT 0 (by omega)) rfl rfl (Nat.le_of_ble_eq_true rfl) ⟨Nat.zero_le _, Nat.zero_le _⟩ rfl ?_
  refine A_ifne (tgt := 18) hC d_Pl_writeOutQuery_8 (by decide) (fun h8 => ?_) (fun h8 => ?_)
  · refine A_iconst hC d_Pl_writeOutQuery_18 (by decide) ?_
    refine A_ist2 hC d_Pl_writeOutQuery_19 ?_
    refine A_ild2 hC d_Pl_writeOutQuery_20 ?_
    refine A_iconst hC d_Pl_writeOutQuery_21 (by decide) ?_
    refine A_icmpge (tgt := 38) hC d_Pl_writeOutQuery_22 (by decide) (fun h22 => ?_) (fun h22 => ?_)
    · exact absurd h22 (by decide)
    refine A_ald0 hC d_Pl_writeOutQuery_25 ?_
    refine A_getCR (v := 19) hC d_Pl_writeOutQuery_26 fF_Pl_17 ⟨by decide, rfl⟩ ly_17 (by omega) ⟨rfl, by decide⟩ cv_17_3 ?_
    refine A_ild2 hC d_Pl_writeOutQuery_29 ?_
    refine A_iconst hC d_Pl_writeOutQuery_30 (by decide) ?_
    refine A_zast hC d_Pl_writeOutQuery_31 ly_19 (by omega) (by omega) (fun _ => kk_z _) (by first | decide | omega) ?_
    refine A_iinc2 hC d_Pl_writeOutQuery_32 (by omega) ?_
    refine A_goto (tgt := 20) hC d_Pl_writeOutQuery_35 (by decide) ?_
    refine A_ild2 hC d_Pl_writeOutQuery_20 ?_
    refine A_iconst hC d_Pl_writeOutQuery_21 (by decide) ?_
    refine A_icmpge (tgt := 38) hC d_Pl_writeOutQuery_22 (by decide) (fun h22 => ?_) (fun h22 => ?_)
    · exact absurd h22 (by decide)
    refine A_ald0 hC d_Pl_writeOutQuery_25 ?_
    refine A_getCR (v := 19) hC d_Pl_writeOutQuery_26 fF_Pl_17 ⟨by decide, rfl⟩ ly_17 (by omega) ⟨rfl, by decide⟩ cv_17_3 ?_
    refine A_ild2 hC d_Pl_writeOutQuery_29 ?_
    refine A_iconst hC d_Pl_writeOutQuery_30 (by decide) ?_
    refine A_zast hC d_Pl_writeOutQuery_31 ly_19 (by omega) (by omega) (fun _ => kk_z _) (by first | decide | omega) ?_
    refine A_iinc2 hC d_Pl_writeOutQuery_32 (by omega) ?_
    refine A_goto (tgt := 20) hC d_Pl_writeOutQuery_35 (by decide) ?_
    refine A_ild2 hC d_Pl_writeOutQuery_20 ?_
    refine A_iconst hC d_Pl_writeOutQuery_21 (by decide) ?_
    refine A_icmpge (tgt := 38) hC d_Pl_writeOutQuery_22 (by decide) (fun h22 => ?_) (fun h22 => ?_)
    · exact absurd h22 (by decide)
    refine A_ald0 hC d_Pl_writeOutQuery_25 ?_
    refine A_getCR (v := 19) hC d_Pl_writeOutQuery_26 fF_Pl_17 ⟨by decide, rfl⟩ ly_17 (by omega) ⟨rfl, by decide⟩ cv_17_3 ?_
    refine A_ild2 hC d_Pl_writeOutQuery_29 ?_
    refine A_iconst hC d_Pl_writeOutQuery_30 (by decide) ?_
    refine A_zast hC d_Pl_writeOutQuery_31 ly_19 (by omega) (by omega) (fun _ => kk_z _) (by first | decide | omega) ?_
    refine A_iinc2 hC d_Pl_writeOutQuery_32 (by omega) ?_
    refine A_goto (tgt := 20) hC d_Pl_writeOutQuery_35 (by decide) ?_
    refine A_ild2 hC d_Pl_writeOutQuery_20 ?_
    refine A_iconst hC d_Pl_writeOutQuery_21 (by decide) ?_
    refine A_icmpge (tgt := 38) hC d_Pl_writeOutQuery_22 (by decide) (fun h22 => ?_) (fun h22 => ?_)
    · exact absurd h22 (by decide)
    refine A_ald0 hC d_Pl_writeOutQuery_25 ?_
    refine A_getCR (v := 19) hC d_Pl_writeOutQuery_26 fF_Pl_17 ⟨by decide, rfl⟩ ly_17 (by omega) ⟨rfl, by decide⟩ cv_17_3 ?_
    refine A_ild2 hC d_Pl_writeOutQuery_29 ?_
    refine A_iconst hC d_Pl_writeOutQuery_30 (by decide) ?_
    refine A_zast hC d_Pl_writeOutQuery_31 ly_19 (by omega) (by omega) (fun _ => kk_z _) (by first | decide | omega) ?_
    refine A_iinc2 hC d_Pl_writeOutQuery_32 (by omega) ?_
    refine A_goto (tgt := 20) hC d_Pl_writeOutQuery_35 (by decide) ?_
    refine A_ild2 hC d_Pl_writeOutQuery_20 ?_
    refine A_iconst hC d_Pl_writeOutQuery_21 (by decide) ?_
    refine A_icmpge (tgt := 38) hC d_Pl_writeOutQuery_22 (by decide) (fun h22 => ?_) (fun h22 => ?_)
    rotate_left
    · exact absurd h22 (by decide)
    refine A_ald0 hC d_Pl_writeOutQuery_38 ?_
    refine A_getCR (v := 18) hC d_Pl_writeOutQuery_39 fF_Pl_11 ⟨by decide, rfl⟩ ly_17 (by omega) ⟨rfl, by decide⟩ cv_17_2 ?_
    refine A_iconst hC d_Pl_writeOutQuery_42 (by decide) ?_
    refine A_aaldC (v := 20) hC d_Pl_writeOutQuery_43 ly_18 (by omega) (by omega) ⟨rfl, kk_st (by omega)⟩ (by rw [cv_st]; try omega) ?_
    refine A_ild1 hC d_Pl_writeOutQuery_44 ?_
    refine A_putI (kI := 5) hC d_Pl_writeOutQuery_45 fP_Pl_49 ⟨by decide, rfl⟩ rfl (ly_S (by omega)) (by omega) (fun _ => by decide) ?_
    refine A_ald0 hC d_Pl_writeOutQuery_48 ?_
    refine A_iconst hC d_Pl_writeOutQuery_49 (by decide) ?_
    refine A_putI (kI := 4) hC d_Pl_writeOutQuery_50 fP_Pl_52 ⟨by decide, rfl⟩ rfl ly_17 (by omega) (fun _ => by decide) ?_
    refine A_ald0 hC d_Pl_writeOutQuery_53 ?_
    refine A_iconst hC d_Pl_writeOutQuery_54 (by decide) ?_
    refine A_putI (kI := 5) hC d_Pl_writeOutQuery_55 fP_Pl_21 ⟨by decide, rfl⟩ rfl ly_17 (by omega) (fun _ => by decide) ?_
    refine A_ald0 hC d_Pl_writeOutQuery_58 ?_
    refine A_iconst hC d_Pl_writeOutQuery_59 (by decide) ?_
    refine A_ald0 hC d_Pl_writeOutQuery_60 ?_
    refine A_getCR (v := 18) hC d_Pl_writeOutQuery_61 fF_Pl_11 ⟨by decide, rfl⟩ ly_17 (by omega) ⟨rfl, by decide⟩ cv_17_2 ?_
    refine A_iconst hC d_Pl_writeOutQuery_64 (by decide) ?_
    refine A_aaldC (v := 20) hC d_Pl_writeOutQuery_65 ly_18 (by omega) (by omega) ⟨rfl, kk_st (by omega)⟩ (by rw [cv_st]; try omega) ?_
    refine A_VF1 (as := [.inl 0, .inr 20]) hC d_Pl_writeOutQuery_66 mv_Pl_writeOut lk_Pl_55 (by decide) sel_Pl_writeOut hq_Pl ly_17 (by omega) (show AF l m_Pl_writeOut 68 [.inr 17, .inl 0, .inr 20] n (wQ0 M t) (some (.inl (wO 61 (up (wQ0 M t) 19 0 1) 0 0 20).1)) (wO 61 (up (wQ0 M t) 19 0 1) 0 0 20).2 from k_Pl_writeOut l n hn 61 (wQ0 M t) 0 20 (WI_Q hP) (by rw [wQ0_z]; decide) (by decide) (by rw [wQ0_z]; decide)) rfl rfl (Nat.le_of_ble_eq_true rfl) ⟨Nat.zero_le _, Nat.zero_le _⟩ rfl ?_
    refine A_zret hC d_Pl_writeOutQuery_69 rfl (Nat.le_refl _) (Nat.le_refl _) (by exact wO_01 _ _ _ _ _) ?_
    exact ⟨fx_r (by unfold wQ; rw [if_neg h8]), rfl, by unfold wQ; rw [if_neg h8]⟩
  · refine A_ald0 hC d_Pl_writeOutQuery_11 ?_
    refine A_iconst hC d_Pl_writeOutQuery_12 (by decide) ?_
    refine A_putI (kI := 5) hC d_Pl_writeOutQuery_13 fP_Pl_21 ⟨by decide, rfl⟩ rfl ly_17 (by omega) (fun _ => by decide) ?_
    refine A_iconst hC d_Pl_writeOutQuery_16 (by decide) ?_
    refine A_zret hC d_Pl_writeOutQuery_17 rfl (Nat.le_refl _) (Nat.le_refl _) (by first | decide | omega) ?_
    exact ⟨fx_r (by unfold wQ; rw [if_pos h8]), rfl, by unfold wQ; rw [if_pos h8]⟩
set_option maxHeartbeats 4000000 in
theorem k_G_check (l : Launch) (n : Nat) (M : Mem) (hn : 117 ≤ n) (hP : WP M) (t : Int) : AF l m_G_check 70 [.inr 0, .inl t] n M (some (.inl (if ¬ (0 ≤ t ∧ t < M 1 4) then -1 else if (wQ M t).1 = 0 then -3 else 0))) (if ¬ (0 ≤ t ∧ t < M 1 4) then M else (wQ M t).2) := by
  refine AM_intro (by decide) (Nat.le_of_ble_eq_true rfl) (fun X b0 D hC _ => ?_)
  show AW X b0 D true 0 0 _ n M 0 [some (.inr 0), some (.inl t)] []
  refine A_ald0 hC d_G_check_0 ?_
  refine A_getCR (v := 1) hC d_G_check_1 fF_G_12 ⟨by decide, rfl⟩ ly_0 (by omega) ⟨rfl, by decide⟩ cv_0_0 ?_
  refine A_ild1 hC d_G_check_4 ?_
  refine A_VF1 (as := [.inl t]) hC d_G_check_5 mv_Sc_hasType lk_G_68 (by decide) sel_Sc_hasType hq_Sc ly_1 (by omega) (k_Sc_hasType l n M hn t) rfl rfl (Nat.le_of_ble_eq_true rfl) ⟨Nat.zero_le _, Nat.zero_le _⟩ rfl ?_
  refine A_ifne (tgt := 13) hC d_G_check_8 (by decide) (fun h8 => ?_) (fun h8 => ?_)
  · refine A_ald0 hC d_G_check_13 ?_
    refine A_getCR (v := 17) hC d_G_check_14 fF_G_39 ⟨by decide, rfl⟩ ly_0 (by omega) ⟨rfl, by decide⟩ cv_0_4 ?_
    refine A_ild1 hC d_G_check_17 ?_
    refine A_VF1 (as := [.inl t]) hC d_G_check_18 mv_Pl_writeOutQuery lk_G_125 (by decide) sel_Pl_writeOutQuery hq_Pl ly_17 (by omega) (k_Pl_writeOutQuery l n M hn hP t) rfl rfl (Nat.le_of_ble_eq_true rfl) ⟨Nat.zero_le _, Nat.zero_le _⟩ rfl ?_
    refine A_ifeq (tgt := 28) hC d_G_check_21 (by decide) (fun h21 => ?_) (fun h21 => ?_)
    · refine A_bipush hC d_G_check_28 (by decide) (by decide) ?_
      refine A_iret hC d_G_check_30 rfl (Nat.le_refl _) (Nat.le_refl _) ?_
      exact ⟨fx_r (by repeat (first | omega | split)), rfl, by repeat (first | rfl | omega | split)⟩
    · refine A_iconst hC d_G_check_24 (by decide) ?_
      refine A_goto (tgt := 30) hC d_G_check_25 (by decide) ?_
      refine A_iret hC d_G_check_30 rfl (Nat.le_refl _) (Nat.le_refl _) ?_
      exact ⟨fx_r (by repeat (first | omega | split)), rfl, by repeat (first | rfl | omega | split)⟩
  · refine A_iconst hC d_G_check_11 (by decide) ?_
    refine A_iret hC d_G_check_12 rfl (Nat.le_refl _) (Nat.le_refl _) ?_
    exact ⟨fx_r (by repeat (first | omega | split)), rfl, by repeat (first | rfl | omega | split)⟩
