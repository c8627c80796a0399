set_option maxHeartbeats 4000000 in
theorem k_Mo_check (l : Launch) (n : Nat) (M : Mem) (hn : 117 ≤ n) (E : Mem) (hM : MT E M) (hS : SCH E) (hX : TXT E) (hB : MB M) (t : Int) : AR l m_Mo_check 5 [.inr 88, .inl t] n M (some (.inl (if ¬ (0 ≤ t ∧ t < M 88 0) then -1 else if ckQ E t = -1 then 0 else -3))) (fun M' => (¬ (0 ≤ t ∧ t < M 88 0) → M' = M) ∧ ((0 ≤ t ∧ t < M 88 0) → M' 88 12 = ckQ E t ∧ frK M M')) := by
  refine AM_intro (by decide) (Nat.le_of_ble_eq_true rfl) (fun X b0 D hC _ => ?_)
  show AW X b0 D true 0 0 _ n M 0 [some (.inr 88), some (.inl t)] []
  have hB1 := hB.1
  refine A_ild1 hC d_Mo_check_0 ?_
  refine A_iconst hC d_Mo_check_1 (by decide) ?_
  refine A_ald0 hC d_Mo_check_2 ?_
  refine A_getI (kI := 0) hC d_Mo_check_3 fF_Mo_99 ⟨by decide, rfl⟩ rfl ly_88 (by omega) ?_
  refine A_iconst hC d_Mo_check_6 (by decide) ?_
  refine A_isub hC d_Mo_check_7 (by omega) ?_
  refine A_SF1 (as := [.inl t, .inl 0, .inl ((M 88 0) - 1)]) hC d_Mo_check_8 mv_Mo_in lk_Mo_105 (by decide) (k_Mo_in l n M hn t 0 ((M 88 0) - 1)) rfl rfl (Nat.le_of_ble_eq_true rfl) ⟨Nat.zero_le _, Nat.zero_le _⟩ rfl ?_
  refine A_ifne (tgt := 16) hC d_Mo_check_11 (by decide) (fun h11 => ?_) (fun h11 => ?_)
  · refine A_ald0 hC d_Mo_check_16 ?_
    refine A_ild1 hC d_Mo_check_17 ?_
    refine A_VR1 (as := [.inl t]) hC d_Mo_check_18 mv_Mo_checked lk_Mo_144 (by decide) sel_Mo_checked hq_Mo ly_88 (by omega) (k_Mo_checked l n M hn E hM hS hX hB t (by omega)) rfl rfl (Nat.le_of_ble_eq_true rfl) ⟨Nat.zero_le _, Nat.zero_le _⟩ rfl (fun M1 hP => ?_)
    refine A_ifeq (tgt := 28) hC d_Mo_check_21 (by decide) (fun h21 => ?_) (fun h21 => ?_)
    · refine A_bipush hC d_Mo_check_28 (by decide) (by decide) ?_
      refine A_iret hC d_Mo_check_30 rfl (Nat.le_refl _) (Nat.le_refl _) ?_
      exact ⟨fx_r (by rw [if_neg (by omega)]; split <;> omega), rfl, fun h => by omega, fun _ => hP⟩
    · refine A_iconst hC d_Mo_check_24 (by decide) ?_
      refine A_goto (tgt := 30) hC d_Mo_check_25 (by decide) ?_
      refine A_iret hC d_Mo_check_30 rfl (Nat.le_refl _) (Nat.le_refl _) ?_
      exact ⟨fx_r (by rw [if_neg (by omega)]; split <;> omega), rfl, fun h => by omega, fun _ => hP⟩
  · refine A_iconst hC d_Mo_check_14 (by decide) ?_
    refine A_iret hC d_Mo_check_15 rfl (Nat.le_refl _) (Nat.le_refl _) ?_
    exact ⟨fx_r (by rw [if_pos (by omega)]), rfl, fun _ => rfl, fun h => by omega⟩
set_option maxHeartbeats 4000000 in
theorem k_Mo_link (l : Launch) (n : Nat) (M : Mem) (hn : 117 ≤ n) (hB : MB M) (r f x : Int) (hx : 0 ≤ M 91 x) : AF l m_Mo_link 3 [.inr 88, .inl r, .inl f, .inl x] n M (some (.inl (if mlB M r f x then -1 else if mlN M r f = 4 then -2 else mlN M r f + 1))) (if mlB M r f x then M else if mlN M r f = 4 then M else up (up M 93 (4 * (4 * r + f) + mlN M r f) x) 92 (4 * r + f) (mlN M r f + 1)) := by
  refine AM_intro (by decide) (Nat.le_of_ble_eq_true rfl) (fun X b0 D hC _ => ?_)
  show AW X b0 D true 0 0 _ n M 0 [some (.inr 88), some (.inl r), some (.inl f), some (.inl x), none, none, none] []
  have hB1 := hB.1
  have hB2 := hB.2.1
  have hB3 := hB.2.2.1
  have hB4 := hB.2.2.2.1
  have hB5 := hB.2.2.2.2.1
  have hB6 := hB.2.2.2.2.2
  have hB4r := hB4 r
  have hB2r := hB2 (M 91 r)
  have hB5c := hB5 (4 * r + f)
  refine A_ald0 hC d_Mo_link_0 ?_
  refine A_ild1 hC d_Mo_link_1 ?_
  refine A_ild2 hC d_Mo_link_2 ?_
  refine A_VF1 (as := [.inl r, .inl f]) hC d_Mo_link_3 mv_Mo_badField lk_Mo_109 (by decide) sel_Mo_badField hq_Mo ly_88 (by omega) (k_Mo_badField l n M hn hB r f) rfl rfl (Nat.le_of_ble_eq_true rfl) ⟨Nat.zero_le _, Nat.zero_le _⟩ rfl ?_
  refine A_ifne (tgt := 31) hC d_Mo_link_6 (by decide) (fun h6 => ?_) (fun h6 => ?_)
  · refine A_iconst hC d_Mo_link_31 (by decide) ?_
    refine A_iret hC d_Mo_link_32 rfl (Nat.le_refl _) (Nat.le_refl _) ?_
    exact ⟨fx_r (by unfold mlN; repeat (first | omega | split)), rfl, by unfold mlN; repeat (first | rfl | omega | split)⟩
  · refine A_ild3 hC d_Mo_link_9 ?_
    refine A_iconst hC d_Mo_link_10 (by decide) ?_
    refine A_ald0 hC d_Mo_link_11 ?_
    refine A_getI (kI := 3) hC d_Mo_link_12 fF_Mo_102 ⟨by decide, rfl⟩ rfl ly_88 (by omega) ?_
    refine A_SF1 (as := [.inl x, .inl 1, .inl (M 88 3)]) hC d_Mo_link_15 mv_Mo_in lk_Mo_105 (by decide) (k_Mo_in l n M hn x 1 (M 88 3)) rfl rfl (Nat.le_of_ble_eq_true rfl) ⟨Nat.zero_le _, Nat.zero_le _⟩ rfl ?_
    refine A_ifeq (tgt := 31) hC d_Mo_link_18 (by decide) (fun h18 => ?_) (fun h18 => ?_)
    · refine A_iconst hC d_Mo_link_31 (by decide) ?_
      refine A_iret hC d_Mo_link_32 rfl (Nat.le_refl _) (Nat.le_refl _) ?_
      exact ⟨fx_r (by unfold mlN; repeat (first | omega | split)), rfl, by unfold mlN; repeat (first | rfl | omega | split)⟩
    · refine A_ald0 hC d_Mo_link_21 ?_
      refine A_ild1 hC d_Mo_link_22 ?_
      refine A_ild2 hC d_Mo_link_23 ?_
      refine A_iconst hC d_Mo_link_24 (by decide) ?_
      refine A_VF1 (as := [.inl r, .inl f, .inl 0]) hC d_Mo_link_25 mv_Mo_of lk_Mo_113 (by decide) sel_Mo_of hq_Mo ly_88 (by omega) (k_Mo_of l n M hn hB r f 0 (by omega) (by omega) (by omega)) rfl rfl (Nat.le_of_ble_eq_true rfl) ⟨Nat.zero_le _, Nat.zero_le _⟩ rfl ?_
      refine A_ifne (tgt := 33) hC d_Mo_link_28 (by decide) (fun h28 => ?_) (fun h28 => ?_)
      · refine A_ald0 hC d_Mo_link_33 ?_
        refine A_ild1 hC d_Mo_link_34 ?_
        refine A_ild2 hC d_Mo_link_35 ?_
        refine A_iconst hC d_Mo_link_36 (by decide) ?_
        refine A_VF1 (as := [.inl r, .inl f, .inl 1]) hC d_Mo_link_37 mv_Mo_of lk_Mo_113 (by decide) sel_Mo_of hq_Mo ly_88 (by omega) (k_Mo_of l n M hn hB r f 1 (by omega) (by omega) (by omega)) rfl rfl (Nat.le_of_ble_eq_true rfl) ⟨Nat.zero_le _, Nat.zero_le _⟩ rfl ?_
        refine A_ist4 hC d_Mo_link_40 ?_
        refine A_ild4 hC d_Mo_link_42 ?_
        refine A_iconst hC d_Mo_link_44 (by decide) ?_
        refine A_icmpeq (tgt := 61) hC d_Mo_link_45 (by decide) (fun h45 => ?_) (fun h45 => ?_)
        · refine A_iconst hC d_Mo_link_61 (by decide) ?_
          refine A_ild1 hC d_Mo_link_62 ?_
          refine A_imul hC d_Mo_link_63 (by omega) ?_
          refine A_ild2 hC d_Mo_link_64 ?_
          refine A_iadd hC d_Mo_link_65 (by omega) ?_
          refine A_ist5 hC d_Mo_link_66 ?_
          refine A_ald0 hC d_Mo_link_68 ?_
          refine A_ild1 hC d_Mo_link_69 ?_
          refine A_ild2 hC d_Mo_link_70 ?_
          refine A_iconst hC d_Mo_link_71 (by decide) ?_
          refine A_VF1 (as := [.inl r, .inl f, .inl 0]) hC d_Mo_link_72 mv_Mo_of lk_Mo_113 (by decide) sel_Mo_of hq_Mo ly_88 (by omega) (k_Mo_of l n M hn hB r f 0 (by omega) (by omega) (by omega)) rfl rfl (Nat.le_of_ble_eq_true rfl) ⟨Nat.zero_le _, Nat.zero_le _⟩ rfl ?_
          refine A_iconst hC d_Mo_link_75 (by decide) ?_
          refine A_icmpne (tgt := 89) hC d_Mo_link_76 (by decide) (fun h76 => ?_) (fun h76 => ?_)
          · refine A_iconst hC d_Mo_link_89 (by decide) ?_
            refine A_ist6 hC d_Mo_link_90 ?_
            refine A_ild6 hC d_Mo_link_92 ?_
            refine A_iconst hC d_Mo_link_94 (by decide) ?_
            refine A_icmpne (tgt := 101) hC d_Mo_link_95 (by decide) (fun h95 => ?_) (fun h95 => ?_)
            · refine A_ald0 hC d_Mo_link_101 ?_
              refine A_getCR (v := 93) hC d_Mo_link_102 fF_Mo_22 ⟨by decide, rfl⟩ ly_88 (by omega) ⟨rfl, by decide⟩ cv_88_6 ?_
              refine A_iconst hC d_Mo_link_105 (by decide) ?_
              refine A_ild5 hC d_Mo_link_106 ?_
              refine A_imul hC d_Mo_link_108 (by omega) ?_
              refine A_ild6 hC d_Mo_link_109 ?_
              refine A_iadd hC d_Mo_link_111 (by omega) ?_
              refine A_ild3 hC d_Mo_link_112 ?_
              refine A_iast hC d_Mo_link_113 ly_93 (by omega) (by omega) (fun _ => kk_i _) ?_
              refine A_ald0 hC d_Mo_link_114 ?_
              refine A_getCR (v := 92) hC d_Mo_link_115 fF_Mo_19 ⟨by decide, rfl⟩ ly_88 (by omega) ⟨rfl, by decide⟩ cv_88_5 ?_
              refine A_ild5 hC d_Mo_link_118 ?_
              refine A_ild6 hC d_Mo_link_120 ?_
              refine A_iconst hC d_Mo_link_122 (by decide) ?_
              refine A_iadd hC d_Mo_link_123 (by omega) ?_
              refine A_iast hC d_Mo_link_124 ly_92 (by omega) (by omega) (fun _ => kk_i _) ?_
              refine A_ild6 hC d_Mo_link_125 ?_
              refine A_iconst hC d_Mo_link_127 (by decide) ?_
              refine A_iadd hC d_Mo_link_128 (by omega) ?_
              refine A_iret hC d_Mo_link_129 rfl (Nat.le_refl _) (Nat.le_refl _) ?_
              exact ⟨fx_r (by unfold mlN; repeat (first | omega | split)), rfl, by unfold mlN; repeat (first | rfl | omega | split)⟩
            · refine A_bipush hC d_Mo_link_98 (by decide) (by decide) ?_
              refine A_iret hC d_Mo_link_100 rfl (Nat.le_refl _) (Nat.le_refl _) ?_
              exact ⟨fx_r (by unfold mlN; repeat (first | omega | split)), rfl, by unfold mlN; repeat (first | rfl | omega | split)⟩
          · refine A_ald0 hC d_Mo_link_79 ?_
            refine A_getCR (v := 92) hC d_Mo_link_80 fF_Mo_19 ⟨by decide, rfl⟩ ly_88 (by omega) ⟨rfl, by decide⟩ cv_88_5 ?_
            refine A_ild5 hC d_Mo_link_83 ?_
            refine A_iald hC d_Mo_link_85 ly_92 (by omega) (by omega) ?_
            refine A_goto (tgt := 90) hC d_Mo_link_86 (by decide) ?_
            refine A_ist6 hC d_Mo_link_90 ?_
            refine A_ild6 hC d_Mo_link_92 ?_
            refine A_iconst hC d_Mo_link_94 (by decide) ?_
            refine A_icmpne (tgt := 101) hC d_Mo_link_95 (by decide) (fun h95 => ?_) (fun h95 => ?_)
            · refine A_ald0 hC d_Mo_link_101 ?_
              refine A_getCR (v := 93) hC d_Mo_link_102 fF_Mo_22 ⟨by decide, rfl⟩ ly_88 (by omega) ⟨rfl, by decide⟩ cv_88_6 ?_
              refine A_iconst hC d_Mo_link_105 (by decide) ?_
              refine A_ild5 hC d_Mo_link_106 ?_
              refine A_imul hC d_Mo_link_108 (by omega) ?_
              refine A_ild6 hC d_Mo_link_109 ?_
              refine A_iadd hC d_Mo_link_111 (by omega) ?_
              refine A_ild3 hC d_Mo_link_112 ?_
              refine A_iast hC d_Mo_link_113 ly_93 (by omega) (by omega) (fun _ => kk_i _) ?_
              refine A_ald0 hC d_Mo_link_114 ?_
              refine A_getCR (v := 92) hC d_Mo_link_115 fF_Mo_19 ⟨by decide, rfl⟩ ly_88 (by omega) ⟨rfl, by decide⟩ cv_88_5 ?_
              refine A_ild5 hC d_Mo_link_118 ?_
              refine A_ild6 hC d_Mo_link_120 ?_
              refine A_iconst hC d_Mo_link_122 (by decide) ?_
              refine A_iadd hC d_Mo_link_123 (by omega) ?_
              refine A_iast hC d_Mo_link_124 ly_92 (by omega) (by omega) (fun _ => kk_i _) ?_
              refine A_ild6 hC d_Mo_link_125 ?_
              refine A_iconst hC d_Mo_link_127 (by decide) ?_
              refine A_iadd hC d_Mo_link_128 (by omega) ?_
              refine A_iret hC d_Mo_link_129 rfl (Nat.le_refl _) (Nat.le_refl _) ?_
              exact ⟨fx_r (by unfold mlN; repeat (first | omega | split)), rfl, by unfold mlN; repeat (first | rfl | omega | split)⟩
            · refine A_bipush hC d_Mo_link_98 (by decide) (by decide) ?_
              refine A_iret hC d_Mo_link_100 rfl (Nat.le_refl _) (Nat.le_refl _) ?_
              exact ⟨fx_r (by unfold mlN; repeat (first | omega | split)), rfl, by unfold mlN; repeat (first | rfl | omega | split)⟩
        · refine A_ild4 hC d_Mo_link_48 ?_
          refine A_ald0 hC d_Mo_link_50 ?_
          refine A_getCR (v := 91) hC d_Mo_link_51 fF_Mo_16 ⟨by decide, rfl⟩ ly_88 (by omega) ⟨rfl, by decide⟩ cv_88_4 ?_
          refine A_ild3 hC d_Mo_link_54 ?_
          refine A_iald hC d_Mo_link_55 ly_91 (by omega) (by omega) ?_
          refine A_icmpeq (tgt := 61) hC d_Mo_link_56 (by decide) (fun h56 => ?_) (fun h56 => ?_)
          · refine A_iconst hC d_Mo_link_61 (by decide) ?_
            refine A_ild1 hC d_Mo_link_62 ?_
            refine A_imul hC d_Mo_link_63 (by omega) ?_
            refine A_ild2 hC d_Mo_link_64 ?_
            refine A_iadd hC d_Mo_link_65 (by omega) ?_
            refine A_ist5 hC d_Mo_link_66 ?_
            refine A_ald0 hC d_Mo_link_68 ?_
            refine A_ild1 hC d_Mo_link_69 ?_
            refine A_ild2 hC d_Mo_link_70 ?_
            refine A_iconst hC d_Mo_link_71 (by decide) ?_
            refine A_VF1 (as := [.inl r, .inl f, .inl 0]) hC d_Mo_link_72 mv_Mo_of lk_Mo_113 (by decide) sel_Mo_of hq_Mo ly_88 (by omega) (k_Mo_of l n M hn hB r f 0 (by omega) (by omega) (by omega)) rfl rfl (Nat.le_of_ble_eq_true rfl) ⟨Nat.zero_le _, Nat.zero_le _⟩ rfl ?_
            refine A_iconst hC d_Mo_link_75 (by decide) ?_
            refine A_icmpne (tgt := 89) hC d_Mo_link_76 (by decide) (fun h76 => ?_) (fun h76 => ?_)
            · refine A_iconst hC d_Mo_link_89 (by decide) ?_
              refine A_ist6 hC d_Mo_link_90 ?_
              refine A_ild6 hC d_Mo_link_92 ?_
              refine A_iconst hC d_Mo_link_94 (by decide) ?_
              refine A_icmpne (tgt := 101) hC d_Mo_link_95 (by decide) (fun h95 => ?_) (fun h95 => ?_)
              · refine A_ald0 hC d_Mo_link_101 ?_
                refine A_getCR (v := 93) hC d_Mo_link_102 fF_Mo_22 ⟨by decide, rfl⟩ ly_88 (by omega) ⟨rfl, by decide⟩ cv_88_6 ?_
                refine A_iconst hC d_Mo_link_105 (by decide) ?_
                refine A_ild5 hC d_Mo_link_106 ?_
                refine A_imul hC d_Mo_link_108 (by omega) ?_
                refine A_ild6 hC d_Mo_link_109 ?_
                refine A_iadd hC d_Mo_link_111 (by omega) ?_
                refine A_ild3 hC d_Mo_link_112 ?_
                refine A_iast hC d_Mo_link_113 ly_93 (by omega) (by omega) (fun _ => kk_i _) ?_
                refine A_ald0 hC d_Mo_link_114 ?_
                refine A_getCR (v := 92) hC d_Mo_link_115 fF_Mo_19 ⟨by decide, rfl⟩ ly_88 (by omega) ⟨rfl, by decide⟩ cv_88_5 ?_
                refine A_ild5 hC d_Mo_link_118 ?_
                refine A_ild6 hC d_Mo_link_120 ?_
                refine A_iconst hC d_Mo_link_122 (by decide) ?_
                refine A_iadd hC d_Mo_link_123 (by omega) ?_
                refine A_iast hC d_Mo_link_124 ly_92 (by omega) (by omega) (fun _ => kk_i _) ?_
                refine A_ild6 hC d_Mo_link_125 ?_
                refine A_iconst hC d_Mo_link_127 (by decide) ?_
                refine A_iadd hC d_Mo_link_128 (by omega) ?_
                refine A_iret hC d_Mo_link_129 rfl (Nat.le_refl _) (Nat.le_refl _) ?_
                exact ⟨fx_r (by unfold mlN; repeat (first | omega | split)), rfl, by unfold mlN; repeat (first | rfl | omega | split)⟩
              · refine A_bipush hC d_Mo_link_98 (by decide) (by decide) ?_
                refine A_iret hC d_Mo_link_100 rfl (Nat.le_refl _) (Nat.le_refl _) ?_
                exact ⟨fx_r (by unfold mlN; repeat (first | omega | split)), rfl, by unfold mlN; repeat (first | rfl | omega | split)⟩
            · refine A_ald0 hC d_Mo_link_79 ?_
              refine A_getCR (v := 92) hC d_Mo_link_80 fF_Mo_19 ⟨by decide, rfl⟩ ly_88 (by omega) ⟨rfl, by decide⟩ cv_88_5 ?_
              refine A_ild5 hC d_Mo_link_83 ?_
              refine A_iald hC d_Mo_link_85 ly_92 (by omega) (by omega) ?_
              refine A_goto (tgt := 90) hC d_Mo_link_86 (by decide) ?_
              refine A_ist6 hC d_Mo_link_90 ?_
              refine A_ild6 hC d_Mo_link_92 ?_
              refine A_iconst hC d_Mo_link_94 (by decide) ?_
              refine A_icmpne (tgt := 101) hC d_Mo_link_95 (by decide) (fun h95 => ?_) (fun h95 => ?_)
              · refine A_ald0 hC d_Mo_link_101 ?_
                refine A_getCR (v := 93) hC d_Mo_link_102 fF_Mo_22 ⟨by decide, rfl⟩ ly_88 (by omega) ⟨rfl, by decide⟩ cv_88_6 ?_
                refine A_iconst hC d_Mo_link_105 (by decide) ?_
                refine A_ild5 hC d_Mo_link_106 ?_
                refine A_imul hC d_Mo_link_108 (by omega) ?_
                refine A_ild6 hC d_Mo_link_109 ?_
                refine A_iadd hC d_Mo_link_111 (by omega) ?_
                refine A_ild3 hC d_Mo_link_112 ?_
                refine A_iast hC d_Mo_link_113 ly_93 (by omega) (by omega) (fun _ => kk_i _) ?_
                refine A_ald0 hC d_Mo_link_114 ?_
                refine A_getCR (v := 92) hC d_Mo_link_115 fF_Mo_19 ⟨by decide, rfl⟩ ly_88 (by omega) ⟨rfl, by decide⟩ cv_88_5 ?_
                refine A_ild5 hC d_Mo_link_118 ?_
                refine A_ild6 hC d_Mo_link_120 ?_
                refine A_iconst hC d_Mo_link_122 (by decide) ?_
                refine A_iadd hC d_Mo_link_123 (by omega) ?_
                refine A_iast hC d_Mo_link_124 ly_92 (by omega) (by omega) (fun _ => kk_i _) ?_
                refine A_ild6 hC d_Mo_link_125 ?_
                refine A_iconst hC d_Mo_link_127 (by decide) ?_
                refine A_iadd hC d_Mo_link_128 (by omega) ?_
                refine A_iret hC d_Mo_link_129 rfl (Nat.le_refl _) (Nat.le_refl _) ?_
                exact ⟨fx_r (by unfold mlN; repeat (first | omega | split)), rfl, by unfold mlN; repeat (first | rfl | omega | split)⟩
              · refine A_bipush hC d_Mo_link_98 (by decide) (by decide) ?_
                refine A_iret hC d_Mo_link_100 rfl (Nat.le_refl _) (Nat.le_refl _) ?_
                exact ⟨fx_r (by unfold mlN; repeat (first | omega | split)), rfl, by unfold mlN; repeat (first | rfl | omega | split)⟩
          · refine A_iconst hC d_Mo_link_59 (by decide) ?_
            refine A_iret hC d_Mo_link_60 rfl (Nat.le_refl _) (Nat.le_refl _) ?_
            exact ⟨fx_r (by unfold mlN; repeat (first | omega | split)), rfl, by unfold mlN; repeat (first | rfl | omega | split)⟩
      · refine A_iconst hC d_Mo_link_31 (by decide) ?_
        refine A_iret hC d_Mo_link_32 rfl (Nat.le_refl _) (Nat.le_refl _) ?_
        exact ⟨fx_r (by unfold mlN; repeat (first | omega | split)), rfl, by unfold mlN; repeat (first | rfl | omega | split)⟩
/-- where the k-th place of the reference begins, and how long it is -/
abbrev mFr (M : Mem) (k : Int) : Int := if k = 0 then 0 else M 115 (k - 1)
set_option maxHeartbeats 4000000 in
theorem k_Mo_missing (l : Launch) (n : Nat) (M : Mem) (hn : 117 ≤ n) (k i : Int) (hp : 0 ≤ M 88 33 ∧ M 88 33 ≤ 130) (he : ∀ k : Int, 0 ≤ k → k < M 88 33 → (if k = 0 then 0 else M 115 (k - 1)) ≤ M 115 k ∧ 0 ≤ (if k = 0 then 0 else M 115 (k - 1)) ∧ M 115 k ≤ 6000) : AF l m_Mo_missing 2 [.inr 88, .inl k, .inl i] n M (some (.inl (if ¬ (0 ≤ k ∧ k ≤ M 88 33 - 1) ∨ i < 0 then -1 else if i < M 115 k - (if k = 0 then 0 else M 115 (k - 1)) then M 116 ((if k = 0 then 0 else M 115 (k - 1)) + i) else -1))) M := by
  refine AM_intro (by decide) (Nat.le_of_ble_eq_true rfl) (fun X b0 D hC _ => ?_)
  show AW X b0 D true 0 0 _ n M 0 [some (.inr 88), some (.inl k), some (.inl i), none] []
  have he1 := he k
  refine A_ild1 hC d_Mo_missing_0 ?_
  refine A_iconst hC d_Mo_missing_1 (by decide) ?_
  refine A_ald0 hC d_Mo_missing_2 ?_
  refine A_getI (kI := 33) hC d_Mo_missing_3 fF_Mo_175 ⟨by decide, rfl⟩ rfl ly_88 (by omega) ?_
  refine A_iconst hC d_Mo_missing_6 (by decide) ?_
  refine A_isub hC d_Mo_missing_7 (by omega) ?_
  refine A_SF1 (as := [.inl k, .inl 0, .inl ((M 88 33) - 1)]) hC d_Mo_missing_8 mv_Mo_in lk_Mo_105 (by decide) (k_Mo_in l n M hn k 0 ((M 88 33) - 1)) rfl rfl (Nat.le_of_ble_eq_true rfl) ⟨Nat.zero_le _, Nat.zero_le _⟩ rfl ?_
  refine A_ifeq (tgt := 18) hC d_Mo_missing_11 (by decide) (fun h11 => ?_) (fun h11 => ?_)
  · refine A_iconst hC d_Mo_missing_18 (by decide) ?_
    refine A_iret hC d_Mo_missing_19 rfl (Nat.le_refl _) (Nat.le_refl _) ?_
    exact ⟨fx_r (by repeat (first | omega | rfl | split)), rfl, rfl⟩
  · refine A_ild2 hC d_Mo_missing_14 ?_
    refine A_ifge (tgt := 20) hC d_Mo_missing_15 (by decide) (fun h15 => ?_) (fun h15 => ?_)
    · refine A_ild1 hC d_Mo_missing_20 ?_
      refine A_ifne (tgt := 28) hC d_Mo_missing_21 (by decide) (fun h21 => ?_) (fun h21 => ?_)
      · refine A_ald0 hC d_Mo_missing_28 ?_
        refine A_getCR (v := 115) hC d_Mo_missing_29 fF_Mo_93 ⟨by decide, rfl⟩ ly_88 (by omega) ⟨rfl, by decide⟩ cv_88_34 ?_
        refine A_ild1 hC d_Mo_missing_32 ?_
        refine A_iconst hC d_Mo_missing_33 (by decide) ?_
        refine A_isub hC d_Mo_missing_34 (by omega) ?_
        refine A_iald hC d_Mo_missing_35 ly_115 (by omega) (by omega) ?_
        refine A_ist3 hC d_Mo_missing_36 ?_
        refine A_ild2 hC d_Mo_missing_37 ?_
        refine A_ald0 hC d_Mo_missing_38 ?_
        refine A_getCR (v := 115) hC d_Mo_missing_39 fF_Mo_93 ⟨by decide, rfl⟩ ly_88 (by omega) ⟨rfl, by decide⟩ cv_88_34 ?_
        refine A_ild1 hC d_Mo_missing_42 ?_
        refine A_iald hC d_Mo_missing_43 ly_115 (by omega) (by omega) ?_
        refine A_ild3 hC d_Mo_missing_44 ?_
        refine A_isub hC d_Mo_missing_45 (by omega) ?_
        refine A_icmpge (tgt := 60) hC d_Mo_missing_46 (by decide) (fun h46 => ?_) (fun h46 => ?_)
        · refine A_iconst hC d_Mo_missing_60 (by decide) ?_
          refine A_iret hC d_Mo_missing_61 rfl (Nat.le_refl _) (Nat.le_refl _) ?_
          exact ⟨fx_r (by repeat (first | omega | rfl | split)), rfl, rfl⟩
        · refine A_ald0 hC d_Mo_missing_49 ?_
          refine A_getCR (v := 116) hC d_Mo_missing_50 fF_Mo_96 ⟨by decide, rfl⟩ ly_88 (by omega) ⟨rfl, by decide⟩ cv_88_35 ?_
          refine A_ild3 hC d_Mo_missing_53 ?_
          refine A_ild2 hC d_Mo_missing_54 ?_
          refine A_iadd hC d_Mo_missing_55 (by omega) ?_
          refine A_iald hC d_Mo_missing_56 ly_116 (by omega) (by omega) ?_
          refine A_goto (tgt := 61) hC d_Mo_missing_57 (by decide) ?_
          refine A_iret hC d_Mo_missing_61 rfl (Nat.le_refl _) (Nat.le_refl _) ?_
          exact ⟨fx_r (by repeat (first | omega | rfl | split)), rfl, rfl⟩
      · refine A_iconst hC d_Mo_missing_24 (by decide) ?_
        refine A_goto (tgt := 36) hC d_Mo_missing_25 (by decide) ?_
        refine A_ist3 hC d_Mo_missing_36 ?_
        refine A_ild2 hC d_Mo_missing_37 ?_
        refine A_ald0 hC d_Mo_missing_38 ?_
        refine A_getCR (v := 115) hC d_Mo_missing_39 fF_Mo_93 ⟨by decide, rfl⟩ ly_88 (by omega) ⟨rfl, by decide⟩ cv_88_34 ?_
        refine A_ild1 hC d_Mo_missing_42 ?_
        refine A_iald hC d_Mo_missing_43 ly_115 (by omega) (by omega) ?_
        refine A_ild3 hC d_Mo_missing_44 ?_
        refine A_isub hC d_Mo_missing_45 (by omega) ?_
        refine A_icmpge (tgt := 60) hC d_Mo_missing_46 (by decide) (fun h46 => ?_) (fun h46 => ?_)
        · refine A_iconst hC d_Mo_missing_60 (by decide) ?_
          refine A_iret hC d_Mo_missing_61 rfl (Nat.le_refl _) (Nat.le_refl _) ?_
          exact ⟨fx_r (by repeat (first | omega | rfl | split)), rfl, rfl⟩
        · refine A_ald0 hC d_Mo_missing_49 ?_
          refine A_getCR (v := 116) hC d_Mo_missing_50 fF_Mo_96 ⟨by decide, rfl⟩ ly_88 (by omega) ⟨rfl, by decide⟩ cv_88_35 ?_
          refine A_ild3 hC d_Mo_missing_53 ?_
          refine A_ild2 hC d_Mo_missing_54 ?_
          refine A_iadd hC d_Mo_missing_55 (by omega) ?_
          refine A_iald hC d_Mo_missing_56 ly_116 (by omega) (by omega) ?_
          refine A_goto (tgt := 61) hC d_Mo_missing_57 (by decide) ?_
          refine A_iret hC d_Mo_missing_61 rfl (Nat.le_refl _) (Nat.le_refl _) ?_
          exact ⟨fx_r (by repeat (first | omega | rfl | split)), rfl, rfl⟩
    · refine A_iconst hC d_Mo_missing_18 (by decide) ?_
      refine A_iret hC d_Mo_missing_19 rfl (Nat.le_refl _) (Nat.le_refl _) ?_
      exact ⟨fx_r (by repeat (first | omega | rfl | split)), rfl, rfl⟩
