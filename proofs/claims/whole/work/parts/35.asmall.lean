-- ===== Asking's small ones
theorem adC_n {M : Mem} {x c y : Int} (h1 : c ≠ 81) (h2 : c ≠ 87) : adC M x c y = M c y := by
  unfold adC
  split
  · rfl
  · split
    · rw [up_nc h1]
    · rw [up_nc h1, up_nc h2, up_nc h1]
/-- the codes: as many as stand there, at most as many as were worked out, at most 120 -/
def COD (M : Mem) : Prop := 0 ≤ M 81 4 ∧ M 81 4 ≤ M 81 5 ∧ M 81 5 ≤ 120
theorem adC_COD {M : Mem} {x : Int} (h : COD M) : COD (adC M x) := by
  obtain ⟨h1, h2, h3⟩ := h
  unfold COD adC
  split
  · exact ⟨h1, h2, h3⟩
  · split
    · rw [up_nk (by decide), up_nk (by decide)]; exact ⟨h1, h2, h3⟩
    · rw [up_eq, up_nk (by decide), up_nc (by decide), up_eq]
      omega
/-- a value that is nothing by itself: its code, and its place if it is required -/
def noM (M : Mem) (e : Int) : Mem := if M e 8 = 0 then adC M 1 else ntH (adC M 1)
set_option maxHeartbeats 4000000 in
theorem k_As_workOutNothing (l : Launch) (n : Nat) (M : Mem) (hn : 117 ≤ n) (hC0 : COD M) (hP : 0 ≤ M 83 4) (hh : 0 ≤ M 83 3 ∧ M 83 3 ≤ 26) (e : Int) (he : 20 ≤ e ∧ e < 81) : AF l m_As_workOutNothing 2 [.inr 81, .inr e] n M (some (.inl (if M e 8 = 0 then 1 else 0))) (noM M e) := by
  refine AM_intro (by decide) (Nat.le_of_ble_eq_true rfl) (fun X b0 D hC _ => ?_)
  show AW X b0 D true 0 0 _ n M 0 [some (.inr 81), some (.inr e)] []
  refine A_ald0 hC d_As_workOutNothing_0 ?_
  refine A_iconst hC d_As_workOutNothing_1 (by decide) ?_
  refine A_VF0 (as := [.inl 1]) hC d_As_workOutNothing_2 mv_As_addCode lk_As_54 (by decide) sel_As_addCode hq_As ly_81 (by omega) (k_As_addCode l n M hn 1 hC0) rfl rfl (Nat.le_of_ble_eq_true rfl) ⟨Nat.zero_le _, Nat.zero_le _⟩ rfl ?_
  refine A_ald1 hC d_As_workOutNothing_5 ?_
  refine A_getI (kI := 8) hC d_As_workOutNothing_6 fF_As_129 ⟨by decide, rfl⟩ rfl (ly_S (by omega)) (by omega) ?_
  refine A_eqi (adC_n (by omega) (by omega)) ?_
  refine A_ifne (tgt := 14) hC d_As_workOutNothing_9 (by decide) (fun h9 => ?_) (fun h9 => ?_)
  · refine A_ald0 hC d_As_workOutNothing_14 ?_
    have hz4 : adC M 1 83 4 = M 83 4 := adC_n (by decide) (by decide)
    have hz3 : adC M 1 83 3 = M 83 3 := adC_n (by decide) (by decide)
    refine A_getCR (v := 83) hC d_As_workOutNothing_15 fF_As_12 ⟨by decide, rfl⟩ ly_81 (by omega) ⟨rfl, by decide⟩ cv_81_2 ?_
    refine A_VF0 (as := []) hC d_As_workOutNothing_18 mv_Pa_noteHere lk_As_132 (by decide) sel_Pa_noteHere hq_Pa ly_83 (by omega) (k_Pa_noteHere l n (adC M 1) hn (by omega) (by omega)) rfl rfl (Nat.le_of_ble_eq_true rfl) ⟨Nat.zero_le _, Nat.zero_le _⟩ rfl ?_
    refine A_iconst hC d_As_workOutNothing_21 (by decide) ?_
    refine A_zret hC d_As_workOutNothing_22 rfl (Nat.le_refl _) (Nat.le_refl _) (by first | decide | omega) ?_
    exact ⟨fx_r (by split <;> omega), rfl, by unfold noM; first | rw [if_pos (by omega)] | rw [if_neg (by omega)]⟩
  · refine A_iconst hC d_As_workOutNothing_12 (by decide) ?_
    refine A_zret hC d_As_workOutNothing_13 rfl (Nat.le_refl _) (Nat.le_refl _) (by first | decide | omega) ?_
    exact ⟨fx_r (by split <;> omega), rfl, by unfold noM; first | rw [if_pos (by omega)] | rw [if_neg (by omega)]⟩
