/-- the reference's own words for: is the token i right where the type t is expected? -/
def fRm (M : Mem) (t i : Int) : Int := if t = 5 ∨ M 89 t ≤ M 98 i then 0 else if M 96 i = 0 then (if M 90 (12 * t + 3 * M 98 i) = 0 then 1 else 0) else (if 0 < M 90 (12 * t + 3 * M 98 i) then 1 else 0)
noncomputable def mRt (M : Mem) (t i : Int) : Int := if M 96 i = 0 ∨ M 96 i = 1 then fRm M t i else if M 96 i = 3 then (if M 97 i < M 88 0 ∧ (t = M 97 i ∨ t = 5) then 1 else 0) else if M 96 i = 5 then (if ¬ gd (M 96) (M 95) (M 97 i) = 0 ∧ M 101 (M 97 i) = 0 then 1 else 0) else 1
set_option maxHeartbeats 4000000 in
theorem k_Mo_fieldRight (l : Launch) (n : Nat) (M : Mem) (hn : 117 ≤ n) (hB : MB M) (t i : Int) (ht : 0 ≤ t ∧ t ≤ 5) (hi : 0 ≤ i ∧ i ≤ 63) (hb : 0 ≤ M 98 i ∧ M 98 i ≤ 3) : AF l m_Mo_fieldRight 1 [.inr 88, .inl t, .inl i] n M (some (.inl (fRm M t i))) M := by
  refine AM_intro (by decide) (Nat.le_of_ble_eq_true rfl) (fun X b0 D hC _ => ?_)
  show AW X b0 D true 0 0 _ n M 0 [some (.inr 88), some (.inl t), some (.inl i), none] []
  have hB1 := hB.1
  have hB2 := hB.2.1
  have hB3 := hB.2.2.1
  have hB4 := hB.2.2.2.1
  have hB5 := hB.2.2.2.2.1
  have hB6 := hB.2.2.2.2.2
  have hB2t := hB2 t
  refine A_ild1 hC d_Mo_fieldRight_0 ?_
  refine A_iconst hC d_Mo_fieldRight_1 (by decide) ?_
  refine A_icmpeq (tgt := 20) hC d_Mo_fieldRight_2 (by decide) (fun h2 => ?_) (fun h2 => ?_)
  · refine A_iconst hC d_Mo_fieldRight_20 (by decide) ?_
    refine A_zret hC d_Mo_fieldRight_21 rfl (Nat.le_refl _) (Nat.le_refl _) (by first | decide | omega) ?_
    exact ⟨fx_r (by unfold fRm; repeat (first | omega | rfl | split)), rfl, rfl⟩
  · refine A_ald0 hC d_Mo_fieldRight_5 ?_
    refine A_getCR (v := 98) hC d_Mo_fieldRight_6 fF_Mo_37 ⟨by decide, rfl⟩ ly_88 (by omega) ⟨rfl, by decide⟩ cv_88_11 ?_
    refine A_ild2 hC d_Mo_fieldRight_9 ?_
    refine A_iald hC d_Mo_fieldRight_10 ly_98 (by omega) (by omega) ?_
    refine A_ald0 hC d_Mo_fieldRight_11 ?_
    refine A_getCR (v := 89) hC d_Mo_fieldRight_12 fF_Mo_7 ⟨by decide, rfl⟩ ly_88 (by omega) ⟨rfl, by decide⟩ cv_88_1 ?_
    refine A_ild1 hC d_Mo_fieldRight_15 ?_
    refine A_iald hC d_Mo_fieldRight_16 ly_89 (by omega) (by omega) ?_
    refine A_icmplt (tgt := 22) hC d_Mo_fieldRight_17 (by decide) (fun h17 => ?_) (fun h17 => ?_)
    · refine A_ald0 hC d_Mo_fieldRight_22 ?_
      refine A_getCR (v := 90) hC d_Mo_fieldRight_23 fF_Mo_13 ⟨by decide, rfl⟩ ly_88 (by omega) ⟨rfl, by decide⟩ cv_88_2 ?_
      refine A_bipush hC d_Mo_fieldRight_26 (by decide) (by decide) ?_
      refine A_ild1 hC d_Mo_fieldRight_28 ?_
      refine A_imul hC d_Mo_fieldRight_29 (by omega) ?_
      refine A_iconst hC d_Mo_fieldRight_30 (by decide) ?_
      refine A_ald0 hC d_Mo_fieldRight_31 ?_
      refine A_getCR (v := 98) hC d_Mo_fieldRight_32 fF_Mo_37 ⟨by decide, rfl⟩ ly_88 (by omega) ⟨rfl, by decide⟩ cv_88_11 ?_
      refine A_ild2 hC d_Mo_fieldRight_35 ?_
      refine A_iald hC d_Mo_fieldRight_36 ly_98 (by omega) (by omega) ?_
      refine A_imul hC d_Mo_fieldRight_37 (by omega) ?_
      refine A_iadd hC d_Mo_fieldRight_38 (by omega) ?_
      refine A_iald hC d_Mo_fieldRight_39 ly_90 (by omega) (by omega) ?_
      refine A_ist3 hC d_Mo_fieldRight_40 ?_
      refine A_ald0 hC d_Mo_fieldRight_41 ?_
      refine A_getCR (v := 96) hC d_Mo_fieldRight_42 fF_Mo_31 ⟨by decide, rfl⟩ ly_88 (by omega) ⟨rfl, by decide⟩ cv_88_9 ?_
      refine A_ild2 hC d_Mo_fieldRight_45 ?_
      refine A_iald hC d_Mo_fieldRight_46 ly_96 (by omega) (by omega) ?_
      refine A_ifne (tgt := 62) hC d_Mo_fieldRight_47 (by decide) (fun h47 => ?_) (fun h47 => ?_)
      · refine A_ild3 hC d_Mo_fieldRight_62 ?_
        refine A_ifle (tgt := 70) hC d_Mo_fieldRight_63 (by decide) (fun h63 => ?_) (fun h63 => ?_)
        · refine A_iconst hC d_Mo_fieldRight_70 (by decide) ?_
          refine A_zret hC d_Mo_fieldRight_71 rfl (Nat.le_refl _) (Nat.le_refl _) (by first | decide | omega) ?_
          exact ⟨fx_r (by unfold fRm; repeat (first | omega | rfl | split)), rfl, rfl⟩
        · refine A_iconst hC d_Mo_fieldRight_66 (by decide) ?_
          refine A_goto (tgt := 71) hC d_Mo_fieldRight_67 (by decide) ?_
          refine A_zret hC d_Mo_fieldRight_71 rfl (Nat.le_refl _) (Nat.le_refl _) (by first | decide | omega) ?_
          exact ⟨fx_r (by unfold fRm; repeat (first | omega | rfl | split)), rfl, rfl⟩
      · refine A_ild3 hC d_Mo_fieldRight_50 ?_
        refine A_ifne (tgt := 58) hC d_Mo_fieldRight_51 (by decide) (fun h51 => ?_) (fun h51 => ?_)
        · refine A_iconst hC d_Mo_fieldRight_58 (by decide) ?_
          refine A_goto (tgt := 71) hC d_Mo_fieldRight_59 (by decide) ?_
          refine A_zret hC d_Mo_fieldRight_71 rfl (Nat.le_refl _) (Nat.le_refl _) (by first | decide | omega) ?_
          exact ⟨fx_r (by unfold fRm; repeat (first | omega | rfl | split)), rfl, rfl⟩
        · refine A_iconst hC d_Mo_fieldRight_54 (by decide) ?_
          refine A_goto (tgt := 71) hC d_Mo_fieldRight_55 (by decide) ?_
          refine A_zret hC d_Mo_fieldRight_71 rfl (Nat.le_refl _) (Nat.le_refl _) (by first | decide | omega) ?_
          exact ⟨fx_r (by unfold fRm; repeat (first | omega | rfl | split)), rfl, rfl⟩
    · refine A_iconst hC d_Mo_fieldRight_20 (by decide) ?_
      refine A_zret hC d_Mo_fieldRight_21 rfl (Nat.le_refl _) (Nat.le_refl _) (by first | decide | omega) ?_
      exact ⟨fx_r (by unfold fRm; repeat (first | omega | rfl | split)), rfl, rfl⟩
set_option maxHeartbeats 4000000 in
theorem k_Mo_right (l : Launch) (n : Nat) (M : Mem) (hn : 117 ≤ n) (hB : MB M) (t i : Int) (ht : 0 ≤ t ∧ t ≤ 5) (hi : 0 ≤ i ∧ i ≤ 63) (hk : tokP (M 96 i) (M 97 i) (M 98 i)) : AF l m_Mo_right 3 [.inr 88, .inl t, .inl i] n M (some (.inl (mRt M t i))) M := by
  refine AM_intro (by decide) (Nat.le_of_ble_eq_true rfl) (fun X b0 D hC _ => ?_)
  show AW X b0 D true 0 0 _ n M 0 [some (.inr 88), some (.inl t), some (.inl i)] []
  refine A_ald0 hC d_Mo_right_0 ?_
  refine A_getCR (v := 96) hC d_Mo_right_1 fF_Mo_31 ⟨by decide, rfl⟩ ly_88 (by omega) ⟨rfl, by decide⟩ cv_88_9 ?_
  refine A_ild2 hC d_Mo_right_4 ?_
  refine A_iald hC d_Mo_right_5 ly_96 (by omega) (by omega) ?_
  refine A_tsw (td := 118) [44, 44, 118, 51, 118, 85] hC d_Mo_right_6 (by decide) (by decide) (by decide) ⟨fun h6 => ?_, fun h6 => ?_, fun h6 => ?_, fun h6 => ?_, fun h6 => ?_, fun h6 => ?_, trivial⟩ (fun h6 => ?_)
  · refine A_ald0 hC d_Mo_right_44 ?_
    refine A_ild1 hC d_Mo_right_45 ?_
    refine A_ild2 hC d_Mo_right_46 ?_
    refine A_VF1 (as := [.inl t, .inl i]) hC d_Mo_right_47 mv_Mo_fieldRight lk_Mo_124 (by decide) sel_Mo_fieldRight hq_Mo ly_88 (by omega) (k_Mo_fieldRight l n M hn hB t i (by omega) (by omega) (by omega)) rfl rfl (Nat.le_of_ble_eq_true rfl) ⟨Nat.zero_le _, Nat.zero_le _⟩ rfl ?_
    refine A_zret hC d_Mo_right_50 rfl (Nat.le_refl _) (Nat.le_refl _) (by unfold fRm; repeat (first | (left; rfl) | (right; rfl) | split)) ?_
    exact ⟨fx_r (by unfold mRt; repeat (first | rfl | omega | split)), rfl, rfl⟩
  · refine A_ald0 hC d_Mo_right_44 ?_
    refine A_ild1 hC d_Mo_right_45 ?_
    refine A_ild2 hC d_Mo_right_46 ?_
    refine A_VF1 (as := [.inl t, .inl i]) hC d_Mo_right_47 mv_Mo_fieldRight lk_Mo_124 (by decide) sel_Mo_fieldRight hq_Mo ly_88 (by omega) (k_Mo_fieldRight l n M hn hB t i (by omega) (by omega) (by omega)) rfl rfl (Nat.le_of_ble_eq_true rfl) ⟨Nat.zero_le _, Nat.zero_le _⟩ rfl ?_
    refine A_zret hC d_Mo_right_50 rfl (Nat.le_refl _) (Nat.le_refl _) (by unfold fRm; repeat (first | (left; rfl) | (right; rfl) | split)) ?_
    exact ⟨fx_r (by unfold mRt; repeat (first | rfl | omega | split)), rfl, rfl⟩
  · refine A_iconst hC d_Mo_right_118 (by decide) ?_
    refine A_zret hC d_Mo_right_119 rfl (Nat.le_refl _) (Nat.le_refl _) (by first | decide | omega) ?_
    exact ⟨fx_r (by unfold mRt; repeat (first | rfl | omega | split)), rfl, rfl⟩
  · refine A_ald0 hC d_Mo_right_51 ?_
    refine A_getCR (v := 97) hC d_Mo_right_52 fF_Mo_34 ⟨by decide, rfl⟩ ly_88 (by omega) ⟨rfl, by decide⟩ cv_88_10 ?_
    refine A_ild2 hC d_Mo_right_55 ?_
    refine A_iald hC d_Mo_right_56 ly_97 (by omega) (by omega) ?_
    refine A_ald0 hC d_Mo_right_57 ?_
    refine A_getI (kI := 0) hC d_Mo_right_58 fF_Mo_99 ⟨by decide, rfl⟩ rfl ly_88 (by omega) ?_
    refine A_icmpge (tgt := 83) hC d_Mo_right_61 (by decide) (fun h61 => ?_) (fun h61 => ?_)
    · refine A_iconst hC d_Mo_right_83 (by decide) ?_
      refine A_zret hC d_Mo_right_84 rfl (Nat.le_refl _) (Nat.le_refl _) (by first | decide | omega) ?_
      exact ⟨fx_r (by unfold mRt; repeat (first | rfl | omega | split)), rfl, rfl⟩
    · refine A_ild1 hC d_Mo_right_64 ?_
      refine A_ald0 hC d_Mo_right_65 ?_
      refine A_getCR (v := 97) hC d_Mo_right_66 fF_Mo_34 ⟨by decide, rfl⟩ ly_88 (by omega) ⟨rfl, by decide⟩ cv_88_10 ?_
      refine A_ild2 hC d_Mo_right_69 ?_
      refine A_iald hC d_Mo_right_70 ly_97 (by omega) (by omega) ?_
      refine A_icmpeq (tgt := 79) hC d_Mo_right_71 (by decide) (fun h71 => ?_) (fun h71 => ?_)
      · refine A_iconst hC d_Mo_right_79 (by decide) ?_
        refine A_goto (tgt := 84) hC d_Mo_right_80 (by decide) ?_
        refine A_zret hC d_Mo_right_84 rfl (Nat.le_refl _) (Nat.le_refl _) (by first | decide | omega) ?_
        exact ⟨fx_r (by unfold mRt; repeat (first | rfl | omega | split)), rfl, rfl⟩
      · refine A_ild1 hC d_Mo_right_74 ?_
        refine A_iconst hC d_Mo_right_75 (by decide) ?_
        refine A_icmpne (tgt := 83) hC d_Mo_right_76 (by decide) (fun h76 => ?_) (fun h76 => ?_)
        · refine A_iconst hC d_Mo_right_83 (by decide) ?_
          refine A_zret hC d_Mo_right_84 rfl (Nat.le_refl _) (Nat.le_refl _) (by first | decide | omega) ?_
          exact ⟨fx_r (by unfold mRt; repeat (first | rfl | omega | split)), rfl, rfl⟩
        · refine A_iconst hC d_Mo_right_79 (by decide) ?_
          refine A_goto (tgt := 84) hC d_Mo_right_80 (by decide) ?_
          refine A_zret hC d_Mo_right_84 rfl (Nat.le_refl _) (Nat.le_refl _) (by first | decide | omega) ?_
          exact ⟨fx_r (by unfold mRt; repeat (first | rfl | omega | split)), rfl, rfl⟩
  · refine A_iconst hC d_Mo_right_118 (by decide) ?_
    refine A_zret hC d_Mo_right_119 rfl (Nat.le_refl _) (Nat.le_refl _) (by first | decide | omega) ?_
    exact ⟨fx_r (by unfold mRt; repeat (first | rfl | omega | split)), rfl, rfl⟩
  · refine A_ald0 hC d_Mo_right_85 ?_
    refine A_ald0 hC d_Mo_right_86 ?_
    refine A_getCR (v := 97) hC d_Mo_right_87 fF_Mo_34 ⟨by decide, rfl⟩ ly_88 (by omega) ⟨rfl, by decide⟩ cv_88_10 ?_
    refine A_ild2 hC d_Mo_right_90 ?_
    refine A_iald hC d_Mo_right_91 ly_97 (by omega) (by omega) ?_
    refine A_VF1 (as := [.inl (M 97 i)]) hC d_Mo_right_92 mv_Mo_good lk_Mo_127 (by decide) sel_Mo_good hq_Mo ly_88 (by omega) (k_Mo_good l n M hn hB (M 97 i) (by omega)) rfl rfl (Nat.le_of_ble_eq_true rfl) ⟨Nat.zero_le _, Nat.zero_le _⟩ rfl ?_
    refine A_ifeq (tgt := 116) hC d_Mo_right_95 (by decide) (fun h95 => ?_) (fun h95 => ?_)
    · refine A_iconst hC d_Mo_right_116 (by decide) ?_
      refine A_zret hC d_Mo_right_117 rfl (Nat.le_refl _) (Nat.le_refl _) (by first | decide | omega) ?_
      exact ⟨fx_r (by unfold mRt; repeat (first | rfl | omega | split)), rfl, rfl⟩
    · refine A_ald0 hC d_Mo_right_98 ?_
      refine A_getCR (v := 101) hC d_Mo_right_99 fF_Mo_50 ⟨by decide, rfl⟩ ly_88 (by omega) ⟨rfl, by decide⟩ cv_88_16 ?_
      refine A_ald0 hC d_Mo_right_102 ?_
      refine A_getCR (v := 97) hC d_Mo_right_103 fF_Mo_34 ⟨by decide, rfl⟩ ly_88 (by omega) ⟨rfl, by decide⟩ cv_88_10 ?_
      refine A_ild2 hC d_Mo_right_106 ?_
      refine A_iald hC d_Mo_right_107 ly_97 (by omega) (by omega) ?_
      refine A_zald hC d_Mo_right_108 ly_101 (by omega) (by omega) ?_
      refine A_ifne (tgt := 116) hC d_Mo_right_109 (by decide) (fun h109 => ?_) (fun h109 => ?_)
      · refine A_iconst hC d_Mo_right_116 (by decide) ?_
        refine A_zret hC d_Mo_right_117 rfl (Nat.le_refl _) (Nat.le_refl _) (by first | decide | omega) ?_
        exact ⟨fx_r (by unfold mRt; repeat (first | rfl | omega | split)), rfl, rfl⟩
      · refine A_iconst hC d_Mo_right_112 (by decide) ?_
        refine A_goto (tgt := 117) hC d_Mo_right_113 (by decide) ?_
        refine A_zret hC d_Mo_right_117 rfl (Nat.le_refl _) (Nat.le_refl _) (by first | decide | omega) ?_
        exact ⟨fx_r (by unfold mRt; repeat (first | rfl | omega | split)), rfl, rfl⟩
  · refine A_iconst hC d_Mo_right_118 (by decide) ?_
    refine A_zret hC d_Mo_right_119 rfl (Nat.le_refl _) (Nat.le_refl _) (by first | decide | omega) ?_
    exact ⟨fx_r (by unfold mRt; repeat (first | rfl | omega | split)), rfl, rfl⟩
def enM (M : Mem) (t b : Int) : Mem := up (up (up M 99 (M 88 13) t) 100 (M 88 13) b) 88 13 (M 88 13 + 1)
theorem enM_n {M : Mem} {t b c j : Int} (h1 : c ≠ 99) (h2 : c ≠ 100) (h3 : c ≠ 88 ∨ j ≠ 13) : enM M t b c j = M c j := by
  unfold enM
  rw [show ∀ (N : Mem) (v : Int), up N 88 13 v c j = N c j from fun N v => h3.elim (fun h => up_nc h) (fun h => up_nk h), up_nc h2, up_nc h1]
def thI (M : Mem) (i : Int) : Int := if M 96 i = 5 then 16 * M 97 i else if M 96 i = 6 ∧ 0 ≤ M 100 (M 88 13 - 1) then M 100 (M 88 13 - 1) else i + 1
def thM (M : Mem) (i : Int) : Mem := if M 96 i = 1 then enM M (M 90 (12 * M 99 (M 88 13 - 1) + 3 * M 98 i + 1)) (-1) else if M 96 i = 3 then enM M (M 97 i) (-1) else if M 96 i = 4 then enM M (M 99 (M 88 13 - 1)) (-1) else if M 96 i = 5 then enM (up M 101 (M 97 i) 1) (M 99 (M 88 13 - 1)) (i + 1) else if M 96 i = 6 then (if 0 ≤ M 100 (M 88 13 - 1) then up (up M 88 13 (M 88 13 - 1)) 101 (i / 16) 0 else up M 88 13 (M 88 13 - 1)) else M
set_option maxHeartbeats 4000000 in
theorem k_Mo_through (l : Launch) (n : Nat) (M : Mem) (hn : 117 ≤ n) (i : Int) (hi : 0 ≤ i ∧ i ≤ 63) (ho : 1 ≤ M 88 13 ∧ M 88 13 ≤ 69) (hk : tokP (M 96 i) (M 97 i) (M 98 i)) (ht : M 96 i = 1 → 0 ≤ M 99 (M 88 13 - 1) ∧ M 99 (M 88 13 - 1) ≤ 4) : AF l m_Mo_through 2 [.inr 88, .inl i] n M (some (.inl (thI M i))) (thM M i) := by
  refine AM_intro (by decide) (Nat.le_of_ble_eq_true rfl) (fun X b0 D hC _ => ?_)
  show AW X b0 D true 0 0 _ n M 0 [some (.inr 88), some (.inl i), none] []
  refine A_ald0 hC d_Mo_through_0 ?_
  refine A_getCR (v := 99) hC d_Mo_through_1 fF_Mo_44 ⟨by decide, rfl⟩ ly_88 (by omega) ⟨rfl, by decide⟩ cv_88_14 ?_
  refine A_ald0 hC d_Mo_through_4 ?_
  refine A_getI (kI := 13) hC d_Mo_through_5 fF_Mo_130 ⟨by decide, rfl⟩ rfl ly_88 (by omega) ?_
  refine A_iconst hC d_Mo_through_8 (by decide) ?_
  refine A_isub hC d_Mo_through_9 (by omega) ?_
  refine A_iald hC d_Mo_through_10 ly_99 (by omega) (by omega) ?_
  refine A_ist2 hC d_Mo_through_11 ?_
  refine A_ald0 hC d_Mo_through_12 ?_
  refine A_getCR (v := 96) hC d_Mo_through_13 fF_Mo_31 ⟨by decide, rfl⟩ ly_88 (by omega) ⟨rfl, by decide⟩ cv_88_9 ?_
  refine A_ild1 hC d_Mo_through_16 ?_
  refine A_iald hC d_Mo_through_17 ly_96 (by omega) (by omega) ?_
  refine A_tsw (td := 179) [56, 179, 84, 98, 107, 137] hC d_Mo_through_18 (by decide) (by decide) (by decide) ⟨fun h18 => ?_, fun h18 => ?_, fun h18 => ?_, fun h18 => ?_, fun h18 => ?_, fun h18 => ?_, trivial⟩ (fun h18 => ?_)
  · refine A_ald0 hC d_Mo_through_56 ?_
    refine A_ald0 hC d_Mo_through_57 ?_
    refine A_getCR (v := 90) hC d_Mo_through_58 fF_Mo_13 ⟨by decide, rfl⟩ ly_88 (by omega) ⟨rfl, by decide⟩ cv_88_2 ?_
    refine A_bipush hC d_Mo_through_61 (by decide) (by decide) ?_
    refine A_ild2 hC d_Mo_through_63 ?_
    refine A_imul hC d_Mo_through_64 (by omega) ?_
    refine A_iconst hC d_Mo_through_65 (by decide) ?_
    refine A_ald0 hC d_Mo_through_66 ?_
    refine A_getCR (v := 98) hC d_Mo_through_67 fF_Mo_37 ⟨by decide, rfl⟩ ly_88 (by omega) ⟨rfl, by decide⟩ cv_88_11 ?_
    refine A_ild1 hC d_Mo_through_70 ?_
    refine A_iald hC d_Mo_through_71 ly_98 (by omega) (by omega) ?_
    refine A_imul hC d_Mo_through_72 (by omega) ?_
    refine A_iadd hC d_Mo_through_73 (by omega) ?_
    refine A_iconst hC d_Mo_through_74 (by decide) ?_
    refine A_iadd hC d_Mo_through_75 (by omega) ?_
    refine A_iald hC d_Mo_through_76 ly_90 (by omega) (by omega) ?_
    refine A_iconst hC d_Mo_through_77 (by decide) ?_
    refine A_VF0 (as := [.inl (M 90 (((12 * (M 99 ((M 88 13) - 1))) + (3 * (M 98 i))) + 1)), .inl (-1)]) hC d_Mo_through_78 mv_Mo_enter lk_Mo_133 (by decide) sel_Mo_enter hq_Mo ly_88 (by omega) (show AF l m_Mo_enter 1 [.inr 88, .inl (M 90 (((12 * (M 99 ((M 88 13) - 1))) + (3 * (M 98 i))) + 1)), .inl (-1)] n M none (enM M (M 90 (((12 * (M 99 ((M 88 13) - 1))) + (3 * (M 98 i))) + 1)) (-1)) from k_Mo_enter l n M hn (M 90 (((12 * (M 99 ((M 88 13) - 1))) + (3 * (M 98 i))) + 1)) (-1) (by first | omega | (rw [up_nc (by decide)]; omega))) rfl rfl (Nat.le_of_ble_eq_true rfl) ⟨Nat.zero_le _, Nat.zero_le _⟩ rfl ?_
    refine A_goto (tgt := 179) hC d_Mo_through_81 (by decide) ?_
    refine A_ild1 hC d_Mo_through_179 ?_
    refine A_iconst hC d_Mo_through_180 (by decide) ?_
    refine A_iadd hC d_Mo_through_181 (by omega) ?_
    refine A_iret hC d_Mo_through_182 rfl (Nat.le_refl _) (Nat.le_refl _) ?_
    exact ⟨fx_r (by unfold thI; repeat (first | rfl | omega | split)), rfl, by unfold thM; repeat (first | rfl | omega | split)⟩
  · refine A_ild1 hC d_Mo_through_179 ?_
    refine A_iconst hC d_Mo_through_180 (by decide) ?_
    refine A_iadd hC d_Mo_through_181 (by omega) ?_
    refine A_iret hC d_Mo_through_182 rfl (Nat.le_refl _) (Nat.le_refl _) ?_
    exact ⟨fx_r (by unfold thI; repeat (first | rfl | omega | split)), rfl, by unfold thM; repeat (first | rfl | omega | split)⟩
  · refine A_ald0 hC d_Mo_through_84 ?_
    refine A_ald0 hC d_Mo_through_85 ?_
    refine A_getCR (v := 97) hC d_Mo_through_86 fF_Mo_34 ⟨by decide, rfl⟩ ly_88 (by omega) ⟨rfl, by decide⟩ cv_88_10 ?_
    refine A_ild1 hC d_Mo_through_89 ?_
    refine A_iald hC d_Mo_through_90 ly_97 (by omega) (by omega) ?_
    refine A_iconst hC d_Mo_through_91 (by decide) ?_
    refine A_VF0 (as := [.inl (M 97 i), .inl (-1)]) hC d_Mo_through_92 mv_Mo_enter lk_Mo_133 (by decide) sel_Mo_enter hq_Mo ly_88 (by omega) (show AF l m_Mo_enter 1 [.inr 88, .inl (M 97 i), .inl (-1)] n M none (enM M (M 97 i) (-1)) from k_Mo_enter l n M hn (M 97 i) (-1) (by first | omega | (rw [up_nc (by decide)]; omega))) rfl rfl (Nat.le_of_ble_eq_true rfl) ⟨Nat.zero_le _, Nat.zero_le _⟩ rfl ?_
    refine A_goto (tgt := 179) hC d_Mo_through_95 (by decide) ?_
    refine A_ild1 hC d_Mo_through_179 ?_
    refine A_iconst hC d_Mo_through_180 (by decide) ?_
    refine A_iadd hC d_Mo_through_181 (by omega) ?_
    refine A_iret hC d_Mo_through_182 rfl (Nat.le_refl _) (Nat.le_refl _) ?_
    exact ⟨fx_r (by unfold thI; repeat (first | rfl | omega | split)), rfl, by unfold thM; repeat (first | rfl | omega | split)⟩
  · refine A_ald0 hC d_Mo_through_98 ?_
    refine A_ild2 hC d_Mo_through_99 ?_
    refine A_iconst hC d_Mo_through_100 (by decide) ?_
    refine A_VF0 (as := [.inl (M 99 ((M 88 13) - 1)), .inl (-1)]) hC d_Mo_through_101 mv_Mo_enter lk_Mo_133 (by decide) sel_Mo_enter hq_Mo ly_88 (by omega) (show AF l m_Mo_enter 1 [.inr 88, .inl (M 99 ((M 88 13) - 1)), .inl (-1)] n M none (enM M (M 99 ((M 88 13) - 1)) (-1)) from k_Mo_enter l n M hn (M 99 ((M 88 13) - 1)) (-1) (by first | omega | (rw [up_nc (by decide)]; omega))) rfl rfl (Nat.le_of_ble_eq_true rfl) ⟨Nat.zero_le _, Nat.zero_le _⟩ rfl ?_
    refine A_goto (tgt := 179) hC d_Mo_through_104 (by decide) ?_
    refine A_ild1 hC d_Mo_through_179 ?_
    refine A_iconst hC d_Mo_through_180 (by decide) ?_
    refine A_iadd hC d_Mo_through_181 (by omega) ?_
    refine A_iret hC d_Mo_through_182 rfl (Nat.le_refl _) (Nat.le_refl _) ?_
    exact ⟨fx_r (by unfold thI; repeat (first | rfl | omega | split)), rfl, by unfold thM; repeat (first | rfl | omega | split)⟩
  · refine A_ald0 hC d_Mo_through_107 ?_
    refine A_getCR (v := 101) hC d_Mo_through_108 fF_Mo_50 ⟨by decide, rfl⟩ ly_88 (by omega) ⟨rfl, by decide⟩ cv_88_16 ?_
    refine A_ald0 hC d_Mo_through_111 ?_
    refine A_getCR (v := 97) hC d_Mo_through_112 fF_Mo_34 ⟨by decide, rfl⟩ ly_88 (by omega) ⟨rfl, by decide⟩ cv_88_10 ?_
    refine A_ild1 hC d_Mo_through_115 ?_
    refine A_iald hC d_Mo_through_116 ly_97 (by omega) (by omega) ?_
    refine A_iconst hC d_Mo_through_117 (by decide) ?_
    refine A_zast hC d_Mo_through_118 ly_101 (by omega) (by omega) (fun _ => kk_z _) (by first | decide | omega) ?_
    refine A_ald0 hC d_Mo_through_119 ?_
    refine A_ild2 hC d_Mo_through_120 ?_
    refine A_ild1 hC d_Mo_through_121 ?_
    refine A_iconst hC d_Mo_through_122 (by decide) ?_
    refine A_iadd hC d_Mo_through_123 (by omega) ?_
    refine A_VF0 (as := [.inl (M 99 ((M 88 13) - 1)), .inl (i + 1)]) hC d_Mo_through_124 mv_Mo_enter lk_Mo_133 (by decide) sel_Mo_enter hq_Mo ly_88 (by omega) (show AF l m_Mo_enter 1 [.inr 88, .inl (M 99 ((M 88 13) - 1)), .inl (i + 1)] n (up M 101 (M 97 i) 1) none (enM (up M 101 (M 97 i) 1) (M 99 ((M 88 13) - 1)) (i + 1)) from k_Mo_enter l n (up M 101 (M 97 i) 1) hn (M 99 ((M 88 13) - 1)) (i + 1) (by first | omega | (rw [up_nc (by decide)]; omega))) rfl rfl (Nat.le_of_ble_eq_true rfl) ⟨Nat.zero_le _, Nat.zero_le _⟩ rfl ?_
    refine A_bipush hC d_Mo_through_127 (by decide) (by decide) ?_
    refine A_ald0 hC d_Mo_through_129 ?_
    refine A_getCR (v := 97) hC d_Mo_through_130 fF_Mo_34 ⟨by decide, rfl⟩ ly_88 (by omega) ⟨rfl, by decide⟩ cv_88_10 ?_
    refine A_ild1 hC d_Mo_through_133 ?_
    refine A_iald hC d_Mo_through_134 ly_97 (by omega) (by omega) ?_
    refine A_eqi (show _ = M 97 i by rw [enM_n (by decide) (by decide) (Or.inl (by decide)), up_nc (by decide)]) ?_
    refine A_imul hC d_Mo_through_135 (by omega) ?_
    refine A_iret hC d_Mo_through_136 rfl (Nat.le_refl _) (Nat.le_refl _) ?_
    exact ⟨fx_r (by unfold thI; repeat (first | rfl | omega | split)), rfl, by unfold thM; repeat (first | rfl | omega | split)⟩
  · refine A_ald0 hC d_Mo_through_137 ?_
    refine A_dup hC d_Mo_through_138 ?_
    refine A_getI (kI := 13) hC d_Mo_through_139 fF_Mo_130 ⟨by decide, rfl⟩ rfl ly_88 (by omega) ?_
    refine A_iconst hC d_Mo_through_142 (by decide) ?_
    refine A_isub hC d_Mo_through_143 (by omega) ?_
    refine A_putI (kI := 13) hC d_Mo_through_144 fP_Mo_130 ⟨by decide, rfl⟩ rfl ly_88 (by omega) (fun _ => by decide) ?_
    refine A_ald0 hC d_Mo_through_147 ?_
    refine A_getCR (v := 100) hC d_Mo_through_148 fF_Mo_47 ⟨by decide, rfl⟩ ly_88 (by omega) ⟨rfl, by decide⟩ cv_88_15 ?_
    refine A_ald0 hC d_Mo_through_151 ?_
    refine A_getIE (x := (M 88 13) - 1) (kI := 13) hC d_Mo_through_152 fF_Mo_130 ⟨by decide, rfl⟩ rfl ly_88 (by omega) (by rw [up_eq]) ?_
    refine A_ialdE (x := M 100 ((M 88 13) - 1)) hC d_Mo_through_155 ly_100 (by omega) (by omega) (by rw [up_nc (c := 88) (c' := 100) (by decide)]) ?_
    refine A_iflt (tgt := 179) hC d_Mo_through_156 (by decide) (fun h156 => ?_) (fun h156 => ?_)
    · refine A_ild1 hC d_Mo_through_179 ?_
      refine A_iconst hC d_Mo_through_180 (by decide) ?_
      refine A_iadd hC d_Mo_through_181 (by omega) ?_
      refine A_iret hC d_Mo_through_182 rfl (Nat.le_refl _) (Nat.le_refl _) ?_
      exact ⟨fx_r (by unfold thI; repeat (first | rfl | omega | split)), rfl, by unfold thM; repeat (first | rfl | omega | split)⟩
    · refine A_ald0 hC d_Mo_through_159 ?_
      refine A_getCR (v := 101) hC d_Mo_through_160 fF_Mo_50 ⟨by decide, rfl⟩ ly_88 (by omega) ⟨rfl, by decide⟩ cv_88_16 ?_
      refine A_ild1 hC d_Mo_through_163 ?_
      refine A_bipush hC d_Mo_through_164 (by decide) (by decide) ?_
      refine A_idiv hC d_Mo_through_166 (by omega) (by omega) ?_
      refine A_iconst hC d_Mo_through_167 (by decide) ?_
      refine A_zast hC d_Mo_through_168 ly_101 (by omega) (by omega) (fun _ => kk_z _) (by first | decide | omega) ?_
      refine A_ald0 hC d_Mo_through_169 ?_
      refine A_getCR (v := 100) hC d_Mo_through_170 fF_Mo_47 ⟨by decide, rfl⟩ ly_88 (by omega) ⟨rfl, by decide⟩ cv_88_15 ?_
      refine A_ald0 hC d_Mo_through_173 ?_
      refine A_getIE (x := (M 88 13) - 1) (kI := 13) hC d_Mo_through_174 fF_Mo_130 ⟨by decide, rfl⟩ rfl ly_88 (by omega) (by rw [up_nc (c := 101) (c' := 88) (by decide), up_eq]) ?_
      refine A_ialdE (x := M 100 ((M 88 13) - 1)) hC d_Mo_through_177 ly_100 (by omega) (by omega) (by rw [up_nc (c := 101) (c' := 100) (by decide), up_nc (c := 88) (c' := 100) (by decide)]) ?_
      refine A_iret hC d_Mo_through_178 rfl (Nat.le_refl _) (Nat.le_refl _) ?_
      exact ⟨fx_r (by unfold thI; repeat (first | rfl | omega | split)), rfl, by unfold thM; repeat (first | rfl | omega | split)⟩
  · refine A_ild1 hC d_Mo_through_179 ?_
    refine A_iconst hC d_Mo_through_180 (by decide) ?_
    refine A_iadd hC d_Mo_through_181 (by omega) ?_
    refine A_iret hC d_Mo_through_182 rfl (Nat.le_refl _) (Nat.le_refl _) ?_
    exact ⟨fx_r (by unfold thI; repeat (first | rfl | omega | split)), rfl, by unfold thM; repeat (first | rfl | omega | split)⟩
