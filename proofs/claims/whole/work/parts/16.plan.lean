theorem SC_up {M : Mem} {c k v : Int} (h : SC M) (h1 : c ≠ 1) (h2 : c ≠ 2) : SC (up M c k v) := by
  unfold SC
  simp only [up_nc (Ne.symm h1), up_nc (Ne.symm h2)]
  exact h
def kO (M : Mem) (t f : Int) : Int := if hasF M t f then M 3 (t * 4 + f) else -1
def tO (M : Mem) (t f : Int) : Int := if hasF M t f then M 4 (t * 4 + f) else 5
def rO (M : Mem) (t f : Int) : Int := if hasF M t f ∧ ¬ M 5 (t * 4 + f) = 0 then 1 else 0
def tkS (M : Mem) (k s : Int) : Mem := up (up (up (up (up (up M (20 + M 17 4) 1 (M 13 k)) (20 + M 17 4) 2 (M 14 k)) (20 + M 17 4) 3 (M 15 k)) (20 + M 17 4) 4 s) (20 + M 17 4) 6 (M 17 4)) 17 4 (M 17 4 + 1)
set_option maxHeartbeats 4000000 in
theorem k_Pl_takeStep (l : Launch) (n : Nat) (M : Mem) (hn : 117 ≤ n) (k s : Int) (hk : 0 ≤ k ∧ k ≤ 63) (hz : 0 ≤ M 17 4 ∧ M 17 4 ≤ 60) : AF l m_Pl_takeStep 1 [.inr 17, .inl k, .inr s] n M (some (.inr (20 + M 17 4))) (tkS M k s) := by
  refine AM_intro (by decide) (Nat.le_of_ble_eq_true rfl) (fun X b0 D hC _ => ?_)
  show AW X b0 D true 0 0 _ n M 0 [some (.inr 17), some (.inl k), some (.inr s), none] []
  refine A_ald0 hC d_Pl_takeStep_0 ?_
  refine A_getCR (v := 18) hC d_Pl_takeStep_1 fF_Pl_11 ⟨by decide, rfl⟩ ly_17 (by omega) ⟨rfl, by decide⟩ cv_17_2 ?_
  refine A_ald0 hC d_Pl_takeStep_4 ?_
  refine A_getI (kI := 4) hC d_Pl_takeStep_5 fF_Pl_52 ⟨by decide, rfl⟩ rfl ly_17 (by omega) ?_
  refine A_aaldC (v := 20 + (M 17 4)) hC d_Pl_takeStep_8 ly_18 (by omega) (by omega) ⟨rfl, kk_st (by omega)⟩ (by rw [cv_st]; try omega) ?_
  refine A_ast3 hC d_Pl_takeStep_9 ?_
  refine A_ald3 hC d_Pl_takeStep_10 ?_
  refine A_ald0 hC d_Pl_takeStep_11 ?_
  refine A_getCR (v := 11) hC d_Pl_takeStep_12 fF_Pl_29 ⟨by decide, rfl⟩ ly_17 (by omega) ⟨rfl, by decide⟩ cv_17_1 ?_
  refine A_getCR (v := 13) hC d_Pl_takeStep_15 fF_Pl_87 ⟨by decide, rfl⟩ ly_11 (by omega) ⟨rfl, by decide⟩ cv_11_1 ?_
  refine A_ild1 hC d_Pl_takeStep_18 ?_
  refine A_iald hC d_Pl_takeStep_19 ly_13 (by omega) (by omega) ?_
  refine A_putI (kI := 1) hC d_Pl_takeStep_20 fP_Pl_36 ⟨by decide, rfl⟩ rfl (ly_S (by omega)) (by omega) (fun _ => by decide) ?_
  refine A_ald3 hC d_Pl_takeStep_23 ?_
  refine A_ald0 hC d_Pl_takeStep_24 ?_
  refine A_getCR (v := 11) hC d_Pl_takeStep_25 fF_Pl_29 ⟨by decide, rfl⟩ ly_17 (by omega) ⟨rfl, by decide⟩ cv_17_1 ?_
  refine A_getCR (v := 14) hC d_Pl_takeStep_28 fF_Pl_90 ⟨by decide, rfl⟩ ly_11 (by omega) ⟨rfl, by decide⟩ cv_11_2 ?_
  refine A_ild1 hC d_Pl_takeStep_31 ?_
  refine A_ialdE (x := M 14 k) hC d_Pl_takeStep_32 ly_14 (by omega) (by omega) (by rw [up_nc (c := 20 + (M 17 4)) (c' := 14) (by omega)]) ?_
  refine A_putI (kI := 2) hC d_Pl_takeStep_33 fP_Pl_75 ⟨by decide, rfl⟩ rfl (ly_S (by omega)) (by omega) (fun _ => by decide) ?_
  refine A_ald3 hC d_Pl_takeStep_36 ?_
  refine A_ald0 hC d_Pl_takeStep_37 ?_
  refine A_getCR (v := 11) hC d_Pl_takeStep_38 fF_Pl_29 ⟨by decide, rfl⟩ ly_17 (by omega) ⟨rfl, by decide⟩ cv_17_1 ?_
  refine A_getCR (v := 15) hC d_Pl_takeStep_41 fF_Pl_93 ⟨by decide, rfl⟩ ly_11 (by omega) ⟨rfl, by decide⟩ cv_11_3 ?_
  refine A_ild1 hC d_Pl_takeStep_44 ?_
  refine A_ialdE (x := M 15 k) hC d_Pl_takeStep_45 ly_15 (by omega) (by omega) (by rw [up_nc (c := 20 + (M 17 4)) (c' := 15) (by omega), up_nc (c := 20 + (M 17 4)) (c' := 15) (by omega)]) ?_
  refine A_putI (kI := 3) hC d_Pl_takeStep_46 fP_Pl_96 ⟨by decide, rfl⟩ rfl (ly_S (by omega)) (by omega) (fun _ => by decide) ?_
  refine A_ald3 hC d_Pl_takeStep_49 ?_
  refine A_ald2 hC d_Pl_takeStep_50 ?_
  refine A_putR (kI := 4) hC d_Pl_takeStep_51 fP_Pl_39 ⟨by decide, rfl⟩ rfl (ly_S (by omega)) (by omega) (fun _ => by decide) ?_
  refine A_ald3 hC d_Pl_takeStep_54 ?_
  refine A_ald3 hC d_Pl_takeStep_55 ?_
  refine A_getCI (v := (M 17 4)) hC d_Pl_takeStep_56 fF_Pl_78 ⟨by decide, rfl⟩ (ly_S (by omega)) (by omega) ⟨rfl, by decide⟩ (by rw [cv_S (by omega)]; try omega) ?_
  refine A_putI (kI := 6) hC d_Pl_takeStep_59 fP_Pl_81 ⟨by decide, rfl⟩ rfl (ly_S (by omega)) (by omega) (fun _ => by decide) ?_
  refine A_ald0 hC d_Pl_takeStep_62 ?_
  refine A_dup hC d_Pl_takeStep_63 ?_
  refine A_getIE (x := M 17 4) (kI := 4) hC d_Pl_takeStep_64 fF_Pl_52 ⟨by decide, rfl⟩ rfl ly_17 (by omega) (by rw [up_nk (k := 6) (k' := 4) (by decide), up_nc (c := 20 + (M 17 4)) (c' := 17) (by omega), up_nk (k := 3) (k' := 4) (by decide), up_nk (k := 2) (k' := 4) (by decide), up_nk (k := 1) (k' := 4) (by decide)]) ?_
  refine A_iconst hC d_Pl_takeStep_67 (by decide) ?_
  refine A_iadd hC d_Pl_takeStep_68 (by omega) ?_
  refine A_putI (kI := 4) hC d_Pl_takeStep_69 fP_Pl_52 ⟨by decide, rfl⟩ rfl ly_17 (by omega) (fun _ => by decide) ?_
  refine A_ald3 hC d_Pl_takeStep_72 ?_
  refine A_aret hC d_Pl_takeStep_73 rfl (Nat.le_refl _) (Nat.le_refl _) ?_
  exact ⟨rfl, rfl, rfl⟩
def fnF (M : Mem) (s e : Int) : Mem := up (up M s 7 (kO M e (M s 3))) s 8 (rO M e (M s 3))
abbrev fnR (M : Mem) (s e : Int) : Int := if (M s 1 = 0 ∧ kO M e (M s 3) = 0) ∨ (¬ M s 1 = 0 ∧ (kO M e (M s 3) = 1 ∨ kO M e (M s 3) = 2)) then 1 else 0
set_option maxHeartbeats 4000000 in
theorem k_Pl_findField (l : Launch) (n : Nat) (M : Mem) (hn : 117 ≤ n) (hS : SC M) (s e : Int) (hs : 20 ≤ s ∧ s < 81) : AF l m_Pl_findField 4 [.inr 17, .inr s, .inl e] n M (some (.inl (fnR M s e))) (fnF M s e) := by
  refine AM_intro (by decide) (Nat.le_of_ble_eq_true rfl) (fun X b0 D hC _ => ?_)
  show AW X b0 D true 0 0 _ n M 0 [some (.inr 17), some (.inr s), some (.inl e)] []
  refine A_ald1 hC d_Pl_findField_0 ?_
  refine A_ald0 hC d_Pl_findField_1 ?_
  refine A_getCR (v := 1) hC d_Pl_findField_2 fF_Pl_25 ⟨by decide, rfl⟩ ly_17 (by omega) ⟨rfl, by decide⟩ cv_17_0 ?_
  refine A_ild2 hC d_Pl_findField_5 ?_
  refine A_ald1 hC d_Pl_findField_6 ?_
  refine A_getI (kI := 3) hC d_Pl_findField_7 fF_Pl_96 ⟨by decide, rfl⟩ rfl (ly_S (by omega)) (by omega) ?_
  refine A_VF1 (as := [.inl e, .inl (M s 3)]) hC d_Pl_findField_10 mv_Sc_kindOf lk_Pl_107 (by decide) sel_Sc_kindOf hq_Sc ly_1 (by omega) (k_Sc_kindOf l n M hn hS e (M s 3)) rfl rfl (Nat.le_of_ble_eq_true rfl) ⟨Nat.zero_le _, Nat.zero_le _⟩ rfl ?_
  refine A_eqi (show _ = kO M e (M s 3) from rfl) ?_
  refine A_putI (kI := 7) hC d_Pl_findField_13 fP_Pl_111 ⟨by decide, rfl⟩ rfl (ly_S (by omega)) (by omega) (fun _ => by decide) ?_
  refine A_ald1 hC d_Pl_findField_16 ?_
  refine A_ald0 hC d_Pl_findField_17 ?_
  refine A_getCR (v := 1) hC d_Pl_findField_18 fF_Pl_25 ⟨by decide, rfl⟩ ly_17 (by omega) ⟨rfl, by decide⟩ cv_17_0 ?_
  refine A_ild2 hC d_Pl_findField_21 ?_
  refine A_ald1 hC d_Pl_findField_22 ?_
  refine A_getIE (x := M s 3) (kI := 3) hC d_Pl_findField_23 fF_Pl_96 ⟨by decide, rfl⟩ rfl (ly_S (by omega)) (by omega) (by rw [up_nk (k := 7) (k' := 3) (by decide)]) ?_
  refine A_VF1 (as := [.inl e, .inl (M s 3)]) hC d_Pl_findField_26 mv_Sc_isRequired lk_Pl_114 (by decide) sel_Sc_isRequired hq_Sc ly_1 (by omega) (k_Sc_isRequired l n (up M s 7 (kO M e (M s 3))) hn (SC_up hS (by omega) (by omega)) e (M s 3)) rfl rfl (Nat.le_of_ble_eq_true rfl) ⟨Nat.zero_le _, Nat.zero_le _⟩ rfl ?_
  refine A_eqi (b := rO M e (M s 3)) (by simp only [hasF, rO, up_nc (show (1 : Int) ≠ s by omega), up_nc (show (2 : Int) ≠ s by omega), up_nc (show (5 : Int) ≠ s by omega)]) ?_
  refine A_putZ (kI := 8) hC d_Pl_findField_29 fP_Pl_118 ⟨by decide, rfl⟩ rfl (ly_S (by omega)) (by omega) (fun _ => by decide) (by unfold rO; split <;> simp) ?_
  refine A_ald1 hC d_Pl_findField_32 ?_
  refine A_getIE (x := M s 1) (kI := 1) hC d_Pl_findField_33 fF_Pl_36 ⟨by decide, rfl⟩ rfl (ly_S (by omega)) (by omega) (by rw [up_nk (k := 8) (k' := 1) (by decide), up_nk (k := 7) (k' := 1) (by decide)]) ?_
  refine A_ifne (tgt := 52) hC d_Pl_findField_36 (by decide) (fun h36 => ?_) (fun h36 => ?_)
  · refine A_ald1 hC d_Pl_findField_52 ?_
    refine A_getIE (x := kO M e (M s 3)) (kI := 7) hC d_Pl_findField_53 fF_Pl_111 ⟨by decide, rfl⟩ rfl (ly_S (by omega)) (by omega) (by rw [up_nk (k := 8) (k' := 7) (by decide), up_eq]) ?_
    refine A_iconst hC d_Pl_findField_56 (by decide) ?_
    refine A_icmpeq (tgt := 68) hC d_Pl_findField_57 (by decide) (fun h57 => ?_) (fun h57 => ?_)
    · refine A_iconst hC d_Pl_findField_68 (by decide) ?_
      refine A_goto (tgt := 73) hC d_Pl_findField_69 (by decide) ?_
      refine A_zret hC d_Pl_findField_73 rfl (Nat.le_refl _) (Nat.le_refl _) (by first | decide | omega) ?_
      exact ⟨fx_r (by unfold fnR; split <;> omega), rfl, rfl⟩
    · refine A_ald1 hC d_Pl_findField_60 ?_
      refine A_getIE (x := kO M e (M s 3)) (kI := 7) hC d_Pl_findField_61 fF_Pl_111 ⟨by decide, rfl⟩ rfl (ly_S (by omega)) (by omega) (by rw [up_nk (k := 8) (k' := 7) (by decide), up_eq]) ?_
      refine A_iconst hC d_Pl_findField_64 (by decide) ?_
      refine A_icmpne (tgt := 72) hC d_Pl_findField_65 (by decide) (fun h65 => ?_) (fun h65 => ?_)
      · refine A_iconst hC d_Pl_findField_72 (by decide) ?_
        refine A_zret hC d_Pl_findField_73 rfl (Nat.le_refl _) (Nat.le_refl _) (by first | decide | omega) ?_
        exact ⟨fx_r (by unfold fnR; split <;> omega), rfl, rfl⟩
      · refine A_iconst hC d_Pl_findField_68 (by decide) ?_
        refine A_goto (tgt := 73) hC d_Pl_findField_69 (by decide) ?_
        refine A_zret hC d_Pl_findField_73 rfl (Nat.le_refl _) (Nat.le_refl _) (by first | decide | omega) ?_
        exact ⟨fx_r (by unfold fnR; split <;> omega), rfl, rfl⟩
  · refine A_ald1 hC d_Pl_findField_39 ?_
    refine A_getIE (x := kO M e (M s 3)) (kI := 7) hC d_Pl_findField_40 fF_Pl_111 ⟨by decide, rfl⟩ rfl (ly_S (by omega)) (by omega) (by rw [up_nk (k := 8) (k' := 7) (by decide), up_eq]) ?_
    refine A_ifne (tgt := 50) hC d_Pl_findField_43 (by decide) (fun h43 => ?_) (fun h43 => ?_)
    · refine A_iconst hC d_Pl_findField_50 (by decide) ?_
      refine A_zret hC d_Pl_findField_51 rfl (Nat.le_refl _) (Nat.le_refl _) (by first | decide | omega) ?_
      exact ⟨fx_r (by unfold fnR; split <;> omega), rfl, rfl⟩
    · refine A_iconst hC d_Pl_findField_46 (by decide) ?_
      refine A_goto (tgt := 51) hC d_Pl_findField_47 (by decide) ?_
      refine A_zret hC d_Pl_findField_51 rfl (Nat.le_refl _) (Nat.le_refl _) (by first | decide | omega) ?_
      exact ⟨fx_r (by unfold fnR; split <;> omega), rfl, rfl⟩
/-- is the token of step s right where the type e is expected? -/
def rtP (M : Mem) (s e : Int) : Prop := ((M s 1 = 0 ∨ M s 1 = 1) ∧ fnR M s e = 1) ∨ (M s 1 = 3 ∧ (0 ≤ M s 2 ∧ M s 2 < M 1 4) ∧ (e = M s 2 ∨ e = 5)) ∨ (M s 1 = 5 ∧ gd (M 13) (M 12) (M s 2) = 1 ∧ M 19 (M s 2) = 0) ∨ (¬ M s 1 = 0 ∧ ¬ M s 1 = 1 ∧ ¬ M s 1 = 3 ∧ ¬ M s 1 = 5)
noncomputable def rtR (M : Mem) (s e : Int) : Int := if M s 1 = 0 ∨ M s 1 = 1 then fnR M s e else if M s 1 = 3 then (if (0 ≤ M s 2 ∧ M s 2 < M 1 4) ∧ (e = M s 2 ∨ e = 5) then 1 else 0) else if M s 1 = 5 then (if ¬ gd (M 13) (M 12) (M s 2) = 0 ∧ M 19 (M s 2) = 0 then 1 else 0) else 1
def rtM (M : Mem) (s e : Int) : Mem := if M s 1 = 0 ∨ M s 1 = 1 then fnF M s e else M
set_option maxHeartbeats 4000000 in
theorem k_Pl_isRight (l : Launch) (n : Nat) (M : Mem) (hn : 117 ≤ n) (hS : SC M) (hT : TX M) (s e : Int) (hs : 20 ≤ s ∧ s < 81) (h5 : M s 1 = 5 → 0 ≤ M s 2 ∧ M s 2 ≤ 3) : AF l m_Pl_isRight 5 [.inr 17, .inr s, .inl e] n M (some (.inl (rtR M s e))) (rtM M s e) := by
  refine AM_intro (by decide) (Nat.le_of_ble_eq_true rfl) (fun X b0 D hC _ => ?_)
  show AW X b0 D true 0 0 _ n M 0 [some (.inr 17), some (.inr s), some (.inl e)] []
  refine A_ald1 hC d_Pl_isRight_0 ?_
  refine A_getI (kI := 1) hC d_Pl_isRight_1 fF_Pl_36 ⟨by decide, rfl⟩ rfl (ly_S (by omega)) (by omega) ?_
  refine A_tsw (td := 116) [44, 44, 116, 51, 116, 84] hC d_Pl_isRight_4 (by decide) (by decide) (by decide) ⟨fun h4 => ?_, fun h4 => ?_, fun h4 => ?_, fun h4 => ?_, fun h4 => ?_, fun h4 => ?_, trivial⟩ (fun h4 => ?_)
  · refine A_ald0 hC d_Pl_isRight_44 ?_
    refine A_ald1 hC d_Pl_isRight_45 ?_
    refine A_ild2 hC d_Pl_isRight_46 ?_
    refine A_VF1 (as := [.inr s, .inl e]) hC d_Pl_isRight_47 mv_Pl_findField lk_Pl_99 (by decide) sel_Pl_findField hq_Pl ly_17 (by omega) (k_Pl_findField l n M hn hS s e (by omega)) rfl rfl (Nat.le_of_ble_eq_true rfl) ⟨Nat.zero_le _, Nat.zero_le _⟩ rfl ?_
    refine A_zret hC d_Pl_isRight_50 rfl (Nat.le_refl _) (Nat.le_refl _) (by unfold fnR; split <;> simp) ?_
    exact ⟨fx_r (by unfold rtR; repeat (first | rfl | omega | split)), rfl, by unfold rtM; repeat (first | rfl | omega | split)⟩
  · refine A_ald0 hC d_Pl_isRight_44 ?_
    refine A_ald1 hC d_Pl_isRight_45 ?_
    refine A_ild2 hC d_Pl_isRight_46 ?_
    refine A_VF1 (as := [.inr s, .inl e]) hC d_Pl_isRight_47 mv_Pl_findField lk_Pl_99 (by decide) sel_Pl_findField hq_Pl ly_17 (by omega) (k_Pl_findField l n M hn hS s e (by omega)) rfl rfl (Nat.le_of_ble_eq_true rfl) ⟨Nat.zero_le _, Nat.zero_le _⟩ rfl ?_
    refine A_zret hC d_Pl_isRight_50 rfl (Nat.le_refl _) (Nat.le_refl _) (by unfold fnR; split <;> simp) ?_
    exact ⟨fx_r (by unfold rtR; repeat (first | rfl | omega | split)), rfl, by unfold rtM; repeat (first | rfl | omega | split)⟩
  · refine A_iconst hC d_Pl_isRight_116 (by decide) ?_
    refine A_zret hC d_Pl_isRight_117 rfl (Nat.le_refl _) (Nat.le_refl _) (by first | decide | omega) ?_
    exact ⟨fx_r (by unfold rtR; repeat (first | rfl | omega | split)), rfl, by unfold rtM; repeat (first | rfl | omega | split)⟩
  · refine A_ald0 hC d_Pl_isRight_51 ?_
    refine A_getCR (v := 1) hC d_Pl_isRight_52 fF_Pl_25 ⟨by decide, rfl⟩ ly_17 (by omega) ⟨rfl, by decide⟩ cv_17_0 ?_
    refine A_ald1 hC d_Pl_isRight_55 ?_
    refine A_getI (kI := 2) hC d_Pl_isRight_56 fF_Pl_75 ⟨by decide, rfl⟩ rfl (ly_S (by omega)) (by omega) ?_
    refine A_VF1 (as := [.inl (M s 2)]) hC d_Pl_isRight_59 mv_Sc_hasType lk_Pl_102 (by decide) sel_Sc_hasType hq_Sc ly_1 (by omega) (k_Sc_hasType l n M hn (M s 2)) rfl rfl (Nat.le_of_ble_eq_true rfl) ⟨Nat.zero_le _, Nat.zero_le _⟩ rfl ?_
    refine A_ifeq (tgt := 82) hC d_Pl_isRight_62 (by decide) (fun h62 => ?_) (fun h62 => ?_)
    · refine A_iconst hC d_Pl_isRight_82 (by decide) ?_
      refine A_zret hC d_Pl_isRight_83 rfl (Nat.le_refl _) (Nat.le_refl _) (by first | decide | omega) ?_
      exact ⟨fx_r (by unfold rtR; repeat (first | rfl | omega | split)), rfl, by unfold rtM; repeat (first | rfl | omega | split)⟩
    · refine A_ild2 hC d_Pl_isRight_65 ?_
      refine A_ald1 hC d_Pl_isRight_66 ?_
      refine A_getI (kI := 2) hC d_Pl_isRight_67 fF_Pl_75 ⟨by decide, rfl⟩ rfl (ly_S (by omega)) (by omega) ?_
      refine A_icmpeq (tgt := 78) hC d_Pl_isRight_70 (by decide) (fun h70 => ?_) (fun h70 => ?_)
      · refine A_iconst hC d_Pl_isRight_78 (by decide) ?_
        refine A_goto (tgt := 83) hC d_Pl_isRight_79 (by decide) ?_
        refine A_zret hC d_Pl_isRight_83 rfl (Nat.le_refl _) (Nat.le_refl _) (by first | decide | omega) ?_
        exact ⟨fx_r (by unfold rtR; repeat (first | rfl | omega | split)), rfl, by unfold rtM; repeat (first | rfl | omega | split)⟩
      · refine A_ild2 hC d_Pl_isRight_73 ?_
        refine A_iconst hC d_Pl_isRight_74 (by decide) ?_
        refine A_icmpne (tgt := 82) hC d_Pl_isRight_75 (by decide) (fun h75 => ?_) (fun h75 => ?_)
        · refine A_iconst hC d_Pl_isRight_82 (by decide) ?_
          refine A_zret hC d_Pl_isRight_83 rfl (Nat.le_refl _) (Nat.le_refl _) (by first | decide | omega) ?_
          exact ⟨fx_r (by unfold rtR; repeat (first | rfl | omega | split)), rfl, by unfold rtM; repeat (first | rfl | omega | split)⟩
        · refine A_iconst hC d_Pl_isRight_78 (by decide) ?_
          refine A_goto (tgt := 83) hC d_Pl_isRight_79 (by decide) ?_
          refine A_zret hC d_Pl_isRight_83 rfl (Nat.le_refl _) (Nat.le_refl _) (by first | decide | omega) ?_
          exact ⟨fx_r (by unfold rtR; repeat (first | rfl | omega | split)), rfl, by unfold rtM; repeat (first | rfl | omega | split)⟩
  · refine A_iconst hC d_Pl_isRight_116 (by decide) ?_
    refine A_zret hC d_Pl_isRight_117 rfl (Nat.le_refl _) (Nat.le_refl _) (by first | decide | omega) ?_
    exact ⟨fx_r (by unfold rtR; repeat (first | rfl | omega | split)), rfl, by unfold rtM; repeat (first | rfl | omega | split)⟩
  · refine A_ald0 hC d_Pl_isRight_84 ?_
    refine A_getCR (v := 11) hC d_Pl_isRight_85 fF_Pl_29 ⟨by decide, rfl⟩ ly_17 (by omega) ⟨rfl, by decide⟩ cv_17_1 ?_
    refine A_ald1 hC d_Pl_isRight_88 ?_
    refine A_getI (kI := 2) hC d_Pl_isRight_89 fF_Pl_75 ⟨by decide, rfl⟩ rfl (ly_S (by omega)) (by omega) ?_
    refine A_VF1 (as := [.inl (M s 2)]) hC d_Pl_isRight_92 mv_Te_isGood lk_Pl_43 (by decide) sel_Te_isGood hq_Te ly_11 (by omega) (k_Te_isGood l n M hn hT (M s 2) (by omega)) rfl rfl (Nat.le_of_ble_eq_true rfl) ⟨Nat.zero_le _, Nat.zero_le _⟩ rfl ?_
    refine A_ifeq (tgt := 114) hC d_Pl_isRight_95 (by decide) (fun h95 => ?_) (fun h95 => ?_)
    · refine A_iconst hC d_Pl_isRight_114 (by decide) ?_
      refine A_zret hC d_Pl_isRight_115 rfl (Nat.le_refl _) (Nat.le_refl _) (by first | decide | omega) ?_
      exact ⟨fx_r (by unfold rtR; repeat (first | rfl | omega | split)), rfl, by unfold rtM; repeat (first | rfl | omega | split)⟩
    · refine A_ald0 hC d_Pl_isRight_98 ?_
      refine A_getCR (v := 19) hC d_Pl_isRight_99 fF_Pl_17 ⟨by decide, rfl⟩ ly_17 (by omega) ⟨rfl, by decide⟩ cv_17_3 ?_
      refine A_ald1 hC d_Pl_isRight_102 ?_
      refine A_getI (kI := 2) hC d_Pl_isRight_103 fF_Pl_75 ⟨by decide, rfl⟩ rfl (ly_S (by omega)) (by omega) ?_
      refine A_zald hC d_Pl_isRight_106 ly_19 (by omega) (by omega) ?_
      refine A_ifne (tgt := 114) hC d_Pl_isRight_107 (by decide) (fun h107 => ?_) (fun h107 => ?_)
      · refine A_iconst hC d_Pl_isRight_114 (by decide) ?_
        refine A_zret hC d_Pl_isRight_115 rfl (Nat.le_refl _) (Nat.le_refl _) (by first | decide | omega) ?_
        exact ⟨fx_r (by unfold rtR; repeat (first | rfl | omega | split)), rfl, by unfold rtM; repeat (first | rfl | omega | split)⟩
      · refine A_iconst hC d_Pl_isRight_110 (by decide) ?_
        refine A_goto (tgt := 115) hC d_Pl_isRight_111 (by decide) ?_
        refine A_zret hC d_Pl_isRight_115 rfl (Nat.le_refl _) (Nat.le_refl _) (by first | decide | omega) ?_
        exact ⟨fx_r (by unfold rtR; repeat (first | rfl | omega | split)), rfl, by unfold rtM; repeat (first | rfl | omega | split)⟩
  · refine A_iconst hC d_Pl_isRight_116 (by decide) ?_
    refine A_zret hC d_Pl_isRight_117 rfl (Nat.le_refl _) (Nat.le_refl _) (by first | decide | omega) ?_
    exact ⟨fx_r (by unfold rtR; repeat (first | rfl | omega | split)), rfl, by unfold rtM; repeat (first | rfl | omega | split)⟩
def tyB (M : Mem) (s e : Int) : Int := if M s 1 = 3 then M s 2 else if M s 1 = 1 then tO M e (M s 3) else e
set_option maxHeartbeats 4000000 in
theorem k_Pl_typeBehind (l : Launch) (n : Nat) (M : Mem) (hn : 117 ≤ n) (hS : SC M) (s e : Int) (hs : 20 ≤ s ∧ s < 81) : AF l m_Pl_typeBehind 4 [.inr 17, .inr s, .inl e] n M (some (.inl (tyB M s e))) M := by
  refine AM_intro (by decide) (Nat.le_of_ble_eq_true rfl) (fun X b0 D hC _ => ?_)
  show AW X b0 D true 0 0 _ n M 0 [some (.inr 17), some (.inr s), some (.inl e)] []
  refine A_ald1 hC d_Pl_typeBehind_0 ?_
  refine A_getI (kI := 1) hC d_Pl_typeBehind_1 fF_Pl_36 ⟨by decide, rfl⟩ rfl (ly_S (by omega)) (by omega) ?_
  refine A_iconst hC d_Pl_typeBehind_4 (by decide) ?_
  refine A_icmpne (tgt := 13) hC d_Pl_typeBehind_5 (by decide) (fun h5 => ?_) (fun h5 => ?_)
  · refine A_ald1 hC d_Pl_typeBehind_13 ?_
    refine A_getI (kI := 1) hC d_Pl_typeBehind_14 fF_Pl_36 ⟨by decide, rfl⟩ rfl (ly_S (by omega)) (by omega) ?_
    refine A_iconst hC d_Pl_typeBehind_17 (by decide) ?_
    refine A_icmpne (tgt := 36) hC d_Pl_typeBehind_18 (by decide) (fun h18 => ?_) (fun h18 => ?_)
    · refine A_ild2 hC d_Pl_typeBehind_36 ?_
      refine A_iret hC d_Pl_typeBehind_37 rfl (Nat.le_refl _) (Nat.le_refl _) ?_
      exact ⟨fx_r (by unfold tyB tO; repeat (first | rfl | omega | split)), rfl, rfl⟩
    · refine A_ald0 hC d_Pl_typeBehind_21 ?_
      refine A_getCR (v := 1) hC d_Pl_typeBehind_22 fF_Pl_25 ⟨by decide, rfl⟩ ly_17 (by omega) ⟨rfl, by decide⟩ cv_17_0 ?_
      refine A_ild2 hC d_Pl_typeBehind_25 ?_
      refine A_ald1 hC d_Pl_typeBehind_26 ?_
      refine A_getI (kI := 3) hC d_Pl_typeBehind_27 fF_Pl_96 ⟨by decide, rfl⟩ rfl (ly_S (by omega)) (by omega) ?_
      refine A_VF1 (as := [.inl e, .inl (M s 3)]) hC d_Pl_typeBehind_30 mv_Sc_targetOf lk_Pl_122 (by decide) sel_Sc_targetOf hq_Sc ly_1 (by omega) (k_Sc_targetOf l n M hn hS e (M s 3)) rfl rfl (Nat.le_of_ble_eq_true rfl) ⟨Nat.zero_le _, Nat.zero_le _⟩ rfl ?_
      refine A_goto (tgt := 37) hC d_Pl_typeBehind_33 (by decide) ?_
      refine A_iret hC d_Pl_typeBehind_37 rfl (Nat.le_refl _) (Nat.le_refl _) ?_
      exact ⟨fx_r (by unfold tyB tO; repeat (first | rfl | omega | split)), rfl, rfl⟩
  · refine A_ald1 hC d_Pl_typeBehind_8 ?_
    refine A_getI (kI := 2) hC d_Pl_typeBehind_9 fF_Pl_75 ⟨by decide, rfl⟩ rfl (ly_S (by omega)) (by omega) ?_
    refine A_iret hC d_Pl_typeBehind_12 rfl (Nat.le_refl _) (Nat.le_refl _) ?_
    exact ⟨fx_r (by unfold tyB tO; repeat (first | rfl | omega | split)), rfl, rfl⟩
set_option maxHeartbeats 4000000 in
theorem k_Pl_root (l : Launch) (n : Nat) (M : Mem) (hn : 117 ≤ n) : AF l m_Pl_root 1 [.inr 17] n M (some (.inr 20)) M := by
  refine AM_intro (by decide) (Nat.le_of_ble_eq_true rfl) (fun X b0 D hC _ => ?_)
  show AW X b0 D true 0 0 _ n M 0 [some (.inr 17)] []
  refine A_ald0 hC d_Pl_root_0 ?_
  refine A_getCR (v := 18) hC d_Pl_root_1 fF_Pl_11 ⟨by decide, rfl⟩ ly_17 (by omega) ⟨rfl, by decide⟩ cv_17_2 ?_
  refine A_iconst hC d_Pl_root_4 (by decide) ?_
  refine A_aaldC (v := 20) hC d_Pl_root_5 ly_18 (by omega) (by omega) ⟨rfl, kk_st (by omega)⟩ (by rw [cv_st]; try omega) ?_
  refine A_aret hC d_Pl_root_6 rfl (Nat.le_refl _) (Nat.le_refl _) ?_
  exact ⟨rfl, rfl, rfl⟩
