-- ===== Asking's answer, and ask of the class
def ANS (B : Mem) (r v : Int) (M' : Mem) : Prop := match objE B 13 [20] r [] ([], 0, []) with
  | .inl x => v = x ∧ M' 81 4 = 0 ∧ M' 83 4 = 0
  | .inr ws => v = (ws.2.1.length : Int) ∧ ASt M' ws.2 []
set_option maxHeartbeats 4000000 in
theorem k_As_answer (l : Launch) (n : Nat) (M : Mem) (hn : 117 ≤ n) (z : Int) (hP : PLN M z) (hz1 : 1 ≤ z) (hR : ROW M) (h10 : M 20 10 < 0) (r : Int) (hr : 1 ≤ r ∧ r ≤ 12) : AX l m_As_answer 49 [.inr 81, .inl r, .inr 20] n M (fun v M' => ANS M r v M' ∧ ff M [20] M M') := by
  refine AM_intro (by decide) (Nat.le_of_ble_eq_true rfl) (fun X b0 D hC _ => ?_)
  show AW X b0 D true 0 0 _ n M 0 [some (.inr 81), some (.inl r), some (.inr 20)] []
  have hf2 : f0 M (up (up (up (up (up M 81 4 0) 83 3 0) 83 4 0) 81 5 0) 81 6 0) := fun c y hc => by rw [up_nc (by omega), up_nc (by omega), up_nc (by omega), up_nc (by omega), up_nc (by omega)]
  have hA2 : ASt (up (up (up (up (up M 81 4 0) 83 3 0) 83 4 0) 81 5 0) 81 6 0) ([], 0, []) [] := by
    refine ⟨⟨?_, fun k hk => absurd hk (Nat.not_lt_zero k), by decide⟩, ⟨?_, by decide⟩, up_eq _ _ _ _, ⟨?_, fun k hk => absurd hk (Nat.not_lt_zero k), by decide⟩, ?_, by decide, fun k hk => absurd hk (Nat.not_lt_zero k)⟩
    · rw [up_nk (by decide), up_nk (by decide), up_nc (by decide), up_nc (by decide), up_eq]; rfl
    · rw [up_nk (by decide), up_eq]
    · rw [up_nc (by decide), up_nc (by decide), up_nk (by decide), up_eq]; rfl
    · rw [up_nc (by decide), up_nc (by decide), up_eq]; rfl
  have h6 := (hP.2.1 20 (by decide) (by omega)).1
  have hz := hP.1
  have hS : SETS M [20] := ⟨h10, fun p hp => by simp at hp; subst hp; omega, fun p hp q => by
      obtain ⟨r, r1, r2, r3⟩ := q
      simp at hp r1
      omega, fun done p cs hsp c hi hcc => by
      obtain ⟨r, r1, r2, r3⟩ := hi
      have := congrArg List.length hsp
      simp at this
      have h0 : done = [] := List.length_eq_zero_iff.mp (by omega)
      rw [h0] at r1
      exact absurd r1 List.not_mem_nil⟩
  refine A_ald0 hC d_As_answer_0 ?_
  refine A_VF0 (as := []) hC d_As_answer_1 mv_As_forget lk_As_37 (by decide) sel_As_forget hq_As ly_81 (by omega) (k_As_forget l n M hn) rfl rfl (Nat.le_of_ble_eq_true rfl) ⟨Nat.zero_le _, Nat.zero_le _⟩ rfl ?_
  refine A_ald0 hC d_As_answer_4 ?_
  refine A_iconst hC d_As_answer_5 (by decide) ?_
  refine A_putI (kI := 5) hC d_As_answer_6 fP_As_40 ⟨by decide, rfl⟩ rfl ly_81 (by omega) (fun _ => by decide) ?_
  refine A_ald0 hC d_As_answer_9 ?_
  refine A_iconst hC d_As_answer_10 (by decide) ?_
  refine A_putI (kI := 6) hC d_As_answer_11 fP_As_43 ⟨by decide, rfl⟩ rfl ly_81 (by omega) (fun _ => by decide) ?_
  refine A_ald0 hC d_As_answer_14 ?_
  refine A_ild1 hC d_As_answer_15 ?_
  refine A_ald2 hC d_As_answer_16 ?_
  refine A_iconst hC d_As_answer_17 (by decide) ?_
  refine A_VX (as := [.inl r, .inr 20, .inl 1]) hC d_As_answer_18 mv_As_workOutObject lk_As_46 (by decide) sel_As_workOutObject hq_As ly_81 (by omega) (OBJC_all l n M hn z hP hR 13 (up (up (up (up (up M 81 4 0) 83 3 0) 83 4 0) 81 5 0) 81 6 0) ([], 0, []) [] r 20 [] 1 (by decide) (by decide) (kp_0 (fun _ _ _ _ => rfl) hf2) hA2 (by decide) hr (fun p hp => by simp at hp; omega) (SETS_0 hf2 hS)) rfl rfl (Nat.le_of_ble_eq_true rfl) ⟨Nat.zero_le _, Nat.zero_le _⟩ rfl (fun v M3 hv => ?_)
  obtain ⟨⟨hv1, hv2⟩, hff⟩ := hv
  refine A_pop hC d_As_answer_21 ?_
  refine A_ald0 hC d_As_answer_22 ?_
  refine A_getI (kI := 6) hC d_As_answer_23 fF_As_43 ⟨by decide, rfl⟩ rfl ly_81 (by omega) ?_
  refine A_ifeq (tgt := 38) hC d_As_answer_26 (by decide) (fun h26 => ?_) (fun h26 => ?_)
  · refine A_ald0 hC d_As_answer_38 ?_
    refine A_getI (kI := 4) hC d_As_answer_39 fF_As_30 ⟨by decide, rfl⟩ rfl ly_81 (by omega) ?_
    refine A_iret hC d_As_answer_42 rfl (Nat.le_refl _) (Nat.le_refl _) ?_
    refine ⟨rfl, _, rfl, ?_, ff_tr (ff_0 hf2) hff⟩
    unfold ANS
    cases ho : objE M 13 [20] r [] ([], 0, []) with
    | inl x =>
      rw [ho] at hv2
      have hv2 : STP M3 x [] := hv2
      exact absurd h26 (STP_b hv2).1
    | inr ws =>
      rw [ho] at hv2
      exact ⟨hv2.2.1.1, hv2.2⟩
  · refine A_ald0 hC d_As_answer_29 ?_
    refine A_VF0 (as := []) hC d_As_answer_30 mv_As_forget lk_As_37 (by decide) sel_As_forget hq_As ly_81 (by omega) (k_As_forget l n M3 hn) rfl rfl (Nat.le_of_ble_eq_true rfl) ⟨Nat.zero_le _, Nat.zero_le _⟩ rfl ?_
    refine A_ald0 hC d_As_answer_33 ?_
    refine A_getIE (x := M3 81 6) (kI := 6) hC d_As_answer_34 fF_As_43 ⟨by decide, rfl⟩ rfl ly_81 (by omega) (by rw [up_nc (c := 83) (c' := 81) (by decide), up_nc (c := 83) (c' := 81) (by decide), up_nk (k := 4) (k' := 6) (by decide)]) ?_
    refine A_iret hC d_As_answer_37 rfl (Nat.le_refl _) (Nat.le_refl _) ?_
    refine ⟨rfl, _, rfl, ?_, ff_tr (ff_0 hf2) (ff_tr hff (ff_0 (fun c y hc => by rw [up_nc (by omega), up_nc (by omega), up_nc (by omega)])))⟩
    unfold ANS
    cases ho : objE M 13 [20] r [] ([], 0, []) with
    | inl x =>
      rw [ho] at hv2
      have hv2 : STP M3 x [] := hv2
      exact ⟨hv2.1.1, by rw [up_nc (by decide), up_nc (by decide), up_eq], up_eq _ _ _ _⟩
    | inr ws =>
      rw [ho] at hv2
      exact absurd (ASt_b hv2.2).1 h26
theorem ckQ_1 {M : Mem} {t : Int} (h : ckQ M t = -1) : gd (M 13) (M 12) 0 = 1 ∧ CK M t 0 = -1 := by
  unfold ckQ at h
  by_cases hg : gd (M 13) (M 12) 0 = 0
  · rw [if_pos hg] at h; omega
  · rw [if_neg hg] at h
    refine ⟨?_, by rw [CK_0]; exact h⟩
    have := gdF_01 (M 13) (M 12 0).toNat (16 * 0) 1
    unfold gd at hg ⊢
    omega
set_option maxHeartbeats 4000000 in
theorem k_G_ask (l : Launch) (n : Nat) (M : Mem) (hn : 117 ≤ n) (hW : WP M) (hX : TXT M) (hR : ROW M) (h12 : M 6 4 ≤ 12) (h10 : M 20 10 < 0) (r : Int) : AX l m_G_ask 71 [.inr 0, .inl r] n M (fun v M' => (¬ (1 ≤ r ∧ r ≤ M 6 4) → v = -1 ∧ M' = M) ∧ ((1 ≤ r ∧ r ≤ M 6 4) → (¬ ckQ M (M 7 (r - 1)) = -1 → v = -3 ∧ M' = up (up (up ((wQ M (M 7 (r - 1))).2) 81 4 0) 83 3 0) 83 4 0) ∧ (ckQ M (M 7 (r - 1)) = -1 → (∃ m : Nat, m ≤ 60 ∧ PS M (M 7 (r - 1)) m (wQ M (M 7 (r - 1))).2 ∧ tS M (M 7 (r - 1)) m = [] ∧ ∀ i : Nat, i < m → tS M (M 7 (r - 1)) i ≠ []) ∧ ANS (wQ M (M 7 (r - 1))).2 r v M' ∧ ff (wQ M (M 7 (r - 1))).2 [20] (wQ M (M 7 (r - 1))).2 M'))) := by
  refine AM_intro (by decide) (Nat.le_of_ble_eq_true rfl) (fun X b0 D hC _ => ?_)
  show AW X b0 D true 0 0 _ n M 0 [some (.inr 0), some (.inl r)] []
  have hq := wQ_ck hW hX (M 7 (r - 1))
  generalize hB : (wQ M (M 7 (r - 1))).2 = B at hq ⊢
  have hwr : AF l m_Pl_writeOutQuery 69 [.inr 17, .inl (M 7 (r - 1))] n M (some (.inl ((wQ M (M 7 (r - 1))).1))) B := by rw [← hB]; exact k_Pl_writeOutQuery l n M hn hW (M 7 (r - 1))
  obtain ⟨q1, q2, q3, q4⟩ := hq
  refine A_ald0 hC d_G_ask_0 ?_
  refine A_getCR (v := 6) hC d_G_ask_1 fF_G_19 ⟨by decide, rfl⟩ ly_0 (by omega) ⟨rfl, by decide⟩ cv_0_1 ?_
  refine A_ild1 hC d_G_ask_4 ?_
  refine A_VF1 (as := [.inl r]) hC d_G_ask_5 mv_Ro_hasRow lk_G_95 (by decide) sel_Ro_hasRow hq_Ro ly_6 (by omega) (k_Ro_hasRow l n M hn r) rfl rfl (Nat.le_of_ble_eq_true rfl) ⟨Nat.zero_le _, Nat.zero_le _⟩ rfl ?_
  refine A_ifne (tgt := 13) hC d_G_ask_8 (by decide) (fun h8 => ?_) (fun h8 => ?_)
  · refine A_ald0 hC d_G_ask_13 ?_
    refine A_getCR (v := 17) hC d_G_ask_14 fF_G_39 ⟨by decide, rfl⟩ ly_0 (by omega) ⟨rfl, by decide⟩ cv_0_4 ?_
    refine A_ald0 hC d_G_ask_17 ?_
    refine A_getCR (v := 6) hC d_G_ask_18 fF_G_19 ⟨by decide, rfl⟩ ly_0 (by omega) ⟨rfl, by decide⟩ cv_0_1 ?_
    refine A_ild1 hC d_G_ask_21 ?_
    refine A_VF1 (as := [.inl r]) hC d_G_ask_22 mv_Ro_typeOf lk_G_98 (by decide) sel_Ro_typeOf hq_Ro ly_6 (by omega) (k_Ro_typeOf l n M hn r (by omega)) rfl rfl (Nat.le_of_ble_eq_true rfl) ⟨Nat.zero_le _, Nat.zero_le _⟩ rfl ?_
    refine A_VF1 (as := [.inl (M 7 (r - 1))]) hC d_G_ask_25 mv_Pl_writeOutQuery lk_G_125 (by decide) sel_Pl_writeOutQuery hq_Pl ly_17 (by omega) (hwr) rfl rfl (Nat.le_of_ble_eq_true rfl) ⟨Nat.zero_le _, Nat.zero_le _⟩ rfl ?_
    refine A_ifne (tgt := 41) hC d_G_ask_28 (by decide) (fun h28 => ?_) (fun h28 => ?_)
    · have hck : ckQ M (M 7 (r - 1)) = -1 := by
        apply Classical.byContradiction
        intro w
        rw [q1, if_neg w] at h28
        exact h28 rfl
      obtain ⟨m, m1, m2, m3, m4⟩ := q4 hck
      have hPl := PLN_of hX m2 m1 m4 m3 (fun j hj => tI_rg hX (ckQ_1 hck).1 (ckQ_1 hck).2 m1 m4 hj)
      have e17 : ∀ c y : Int, c < 17 → B c y = M c y := fun c y h => q3 c y (Or.inl (Or.inl h)) (by omega)
      have hRB : ROW B := ROW_kp (B := M) (M := M) (fun _ _ _ _ => rfl) hR |> fun h => ⟨fun i => by rw [e17 8 i (by decide)]; exact h.1 i, fun i => by rw [e17 9 i (by decide)]; exact h.2.1 i, fun i j h1 h2 h3 h4 => by rw [e17 10 _ (by decide)]; rw [e17 9 i (by decide)] at h4; exact h.2.2.1 i j h1 h2 h3 h4, fun i => by rw [e17 7 i (by decide)]; exact h.2.2.2 i⟩
      have h10B : B 20 10 < 0 := by rw [q3 20 10 (Or.inr ⟨rfl, by decide⟩) (by decide)]; exact h10
      refine A_ald0 hC d_G_ask_41 ?_
      refine A_getCR (v := 81) hC d_G_ask_42 fF_G_53 ⟨by decide, rfl⟩ ly_0 (by omega) ⟨rfl, by decide⟩ cv_0_5 ?_
      refine A_ild1 hC d_G_ask_45 ?_
      refine A_ald0 hC d_G_ask_46 ?_
      refine A_getCR (v := 17) hC d_G_ask_47 fF_G_39 ⟨by decide, rfl⟩ ly_0 (by omega) ⟨rfl, by decide⟩ cv_0_4 ?_
      refine A_VF1 (as := []) hC d_G_ask_50 mv_Pl_root lk_G_134 (by decide) sel_Pl_root hq_Pl ly_17 (by omega) (k_Pl_root l n B hn) rfl rfl (Nat.le_of_ble_eq_true rfl) ⟨Nat.zero_le _, Nat.zero_le _⟩ rfl ?_
      refine A_VX (as := [.inl r, .inr 20]) hC d_G_ask_53 mv_As_answer lk_G_138 (by decide) sel_As_answer hq_As ly_81 (by omega) (k_As_answer l n B hn ((m : Int) + 1) hPl (by omega) hRB h10B r (by omega)) rfl rfl (Nat.le_of_ble_eq_true rfl) ⟨Nat.zero_le _, Nat.zero_le _⟩ rfl (fun v M3 hv => ?_)
      obtain ⟨hv1, hv2⟩ := hv
      refine A_iret hC d_G_ask_56 rfl (Nat.le_refl _) (Nat.le_refl _) ?_
      refine ⟨rfl, _, rfl, fun w => ?_, fun w => ⟨fun c => absurd hck c, fun c => ⟨⟨m, m1, m2, m3, m4⟩, hv1, hv2⟩⟩⟩
      exact absurd (if_neg w) h8
    · refine A_ald0 hC d_G_ask_31 ?_
      refine A_getCR (v := 81) hC d_G_ask_32 fF_G_53 ⟨by decide, rfl⟩ ly_0 (by omega) ⟨rfl, by decide⟩ cv_0_5 ?_
      refine A_VF0 (as := []) hC d_G_ask_35 mv_As_forget lk_G_131 (by decide) sel_As_forget hq_As ly_81 (by omega) (k_As_forget l n B hn) rfl rfl (Nat.le_of_ble_eq_true rfl) ⟨Nat.zero_le _, Nat.zero_le _⟩ rfl ?_
      refine A_bipush hC d_G_ask_38 (by decide) (by decide) ?_
      refine A_iret hC d_G_ask_40 rfl (Nat.le_refl _) (Nat.le_refl _) ?_
      refine ⟨rfl, _, rfl, fun w => ?_, fun w => ⟨fun _ => ⟨rfl, rfl⟩, fun c => ?_⟩⟩
      · exact absurd (if_neg w) h8
      · rw [q1, if_pos c] at h28
        exact absurd h28 (by decide)
  · refine A_iconst hC d_G_ask_11 (by decide) ?_
    refine A_iret hC d_G_ask_12 rfl (Nat.le_refl _) (Nat.le_refl _) ?_
    refine ⟨rfl, _, rfl, fun _ => ⟨rfl, rfl⟩, fun w => ?_⟩
    exfalso
    rw [if_pos w] at h8
    exact absurd h8 (by decide)
