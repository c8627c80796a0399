set_option maxHeartbeats 4000000 in
theorem k_As_workOutNumber (l : Launch) (n : Nat) (M : Mem) (hn : 117 ≤ n) (hC0 : COD M) (hP : 0 ≤ M 83 4) (hh : 0 ≤ M 83 3 ∧ M 83 3 ≤ 26) (r e : Int) (he : 20 ≤ e ∧ e < 81) (hr : 1 ≤ r ∧ r ≤ 12) (hb : 0 ≤ M e 3 ∧ M e 3 ≤ 3) (hv : -1 ≤ M 8 ((r - 1) * 4 + M e 3) ∧ M 8 ((r - 1) * 4 + M e 3) ≤ 999) : AF l m_As_workOutNumber 3 [.inr 81, .inl r, .inr e] n M (some (.inl (if M 8 ((r - 1) * 4 + M e 3) = -1 then (if M e 8 = 0 then 1 else 0) else 1))) (if M 8 ((r - 1) * 4 + M e 3) = -1 then noM M e else adC M (1000 + M 8 ((r - 1) * 4 + M e 3))) := by
  refine AM_intro (by decide) (Nat.le_of_ble_eq_true rfl) (fun X b0 D hC _ => ?_)
  show AW X b0 D true 0 0 _ n M 0 [some (.inr 81), some (.inl r), some (.inr e), none] []
  refine A_ald0 hC d_As_workOutNumber_0 ?_
  refine A_getCR (v := 6) hC d_As_workOutNumber_1 fF_As_22 ⟨by decide, rfl⟩ ly_81 (by omega) ⟨rfl, by decide⟩ cv_81_0 ?_
  refine A_ild1 hC d_As_workOutNumber_4 ?_
  refine A_ald2 hC d_As_workOutNumber_5 ?_
  refine A_getI (kI := 3) hC d_As_workOutNumber_6 fF_As_111 ⟨by decide, rfl⟩ rfl (ly_S (by omega)) (by omega) ?_
  refine A_VF1 (as := [.inl r, .inl (M e 3)]) hC d_As_workOutNumber_9 mv_Ro_numberOf lk_As_114 (by decide) sel_Ro_numberOf hq_Ro ly_6 (by omega) (k_Ro_numberOf l n M hn r (M e 3) (by omega) (by omega)) rfl rfl (Nat.le_of_ble_eq_true rfl) ⟨Nat.zero_le _, Nat.zero_le _⟩ rfl ?_
  refine A_ist3 hC d_As_workOutNumber_12 ?_
  refine A_ild3 hC d_As_workOutNumber_13 ?_
  refine A_iconst hC d_As_workOutNumber_14 (by decide) ?_
  refine A_icmpne (tgt := 24) hC d_As_workOutNumber_15 (by decide) (fun h15 => ?_) (fun h15 => ?_)
  · refine A_ald0 hC d_As_workOutNumber_24 ?_
    refine A_sipush hC d_As_workOutNumber_25 (by decide) (by decide) ?_
    refine A_ild3 hC d_As_workOutNumber_28 ?_
    refine A_iadd hC d_As_workOutNumber_29 (by omega) ?_
    refine A_VF0 (as := [.inl (1000 + (M 8 ((r - 1) * 4 + (M e 3))))]) hC d_As_workOutNumber_30 mv_As_addCode lk_As_54 (by decide) sel_As_addCode hq_As ly_81 (by omega) (k_As_addCode l n M hn (1000 + (M 8 ((r - 1) * 4 + (M e 3)))) hC0) rfl rfl (Nat.le_of_ble_eq_true rfl) ⟨Nat.zero_le _, Nat.zero_le _⟩ rfl ?_
    refine A_iconst hC d_As_workOutNumber_33 (by decide) ?_
    refine A_zret hC d_As_workOutNumber_34 rfl (Nat.le_refl _) (Nat.le_refl _) (by first | decide | omega) ?_
    exact ⟨fx_r (by repeat (first | omega | rfl | split)), rfl, by repeat (first | rfl | omega | split)⟩
  · refine A_ald0 hC d_As_workOutNumber_18 ?_
    refine A_ald2 hC d_As_workOutNumber_19 ?_
    refine A_VF1 (as := [.inr e]) hC d_As_workOutNumber_20 mv_As_workOutNothing lk_As_118 (by decide) sel_As_workOutNothing hq_As ly_81 (by omega) (k_As_workOutNothing l n M hn hC0 hP hh e he) rfl rfl (Nat.le_of_ble_eq_true rfl) ⟨Nat.zero_le _, Nat.zero_le _⟩ rfl ?_
    refine A_zret hC d_As_workOutNumber_23 rfl (Nat.le_refl _) (Nat.le_refl _) (by split <;> simp) ?_
    exact ⟨fx_r (by repeat (first | omega | rfl | split)), rfl, by repeat (first | rfl | omega | split)⟩
