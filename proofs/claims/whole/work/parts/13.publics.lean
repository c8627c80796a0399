/-- the rows are at most twelve -/
def RC (M : Mem) : Prop := 0 ≤ M 6 4 ∧ M 6 4 ≤ 12
abbrev kIn (M : Mem) (r f : Int) : Int := if 1 ≤ r ∧ r ≤ M 6 4 then (if hasF M (M 7 (r - 1)) f then M 3 (M 7 (r - 1) * 4 + f) else -1) else -1
set_option maxHeartbeats 4000000 in
theorem k_G_kindIn (l : Launch) (n : Nat) (M : Mem) (hn : 117 ≤ n) (hS : SC M) (hR : RC M) (r f : Int) : AF l m_G_kindIn 4 [.inr 0, .inl r, .inl f] n M (some (.inl (kIn M r f))) M := by
  refine AM_intro (by decide) (Nat.le_of_ble_eq_true rfl) (fun X b0 D hC _ => ?_)
  show AW X b0 D true 0 0 _ n M 0 [some (.inr 0), some (.inl r), some (.inl f)] []
  have hS1 := hS.1
  have hS2 := hS.2.1
  have hR1 := hR.1
  have hR2 := hR.2
  have hS3 := hS.2.2 (M 7 (r - 1))
  refine A_ald0 hC d_G_kindIn_0 ?_
  refine A_getCR (v := 6) hC d_G_kindIn_1 fF_G_19 ⟨by decide, rfl⟩ ly_0 (by omega) ⟨rfl, by decide⟩ cv_0_1 ?_
  refine A_ild1 hC d_G_kindIn_4 ?_
  refine A_VF1 (as := [.inl r]) hC d_G_kindIn_5 mv_Ro_hasRow lk_G_95 (by decide) sel_Ro_hasRow hq_Ro ly_6 (by omega) (k_Ro_hasRow l n M hn r) rfl rfl (Nat.le_of_ble_eq_true rfl) ⟨Nat.zero_le _, Nat.zero_le _⟩ rfl ?_
  refine A_ifeq (tgt := 30) hC d_G_kindIn_8 (by decide) (fun h8 => ?_) (fun h8 => ?_)
  · refine A_iconst hC d_G_kindIn_30 (by decide) ?_
    refine A_iret hC d_G_kindIn_31 rfl (Nat.le_refl _) (Nat.le_refl _) ?_
    exact ⟨fx_r (by unfold kIn; repeat (first | omega | split)), rfl, rfl⟩
  · refine A_ald0 hC d_G_kindIn_11 ?_
    refine A_getCR (v := 1) hC d_G_kindIn_12 fF_G_12 ⟨by decide, rfl⟩ ly_0 (by omega) ⟨rfl, by decide⟩ cv_0_0 ?_
    refine A_ald0 hC d_G_kindIn_15 ?_
    refine A_getCR (v := 6) hC d_G_kindIn_16 fF_G_19 ⟨by decide, rfl⟩ ly_0 (by omega) ⟨rfl, by decide⟩ cv_0_1 ?_
    refine A_ild1 hC d_G_kindIn_19 ?_
    refine A_VF1 (as := [.inl r]) hC d_G_kindIn_20 mv_Ro_typeOf lk_G_98 (by decide) sel_Ro_typeOf hq_Ro ly_6 (by omega) (k_Ro_typeOf l n M hn r (by omega)) rfl rfl (Nat.le_of_ble_eq_true rfl) ⟨Nat.zero_le _, Nat.zero_le _⟩ rfl ?_
    refine A_ild2 hC d_G_kindIn_23 ?_
    refine A_VF1 (as := [.inl (M 7 (r - 1)), .inl f]) hC d_G_kindIn_24 mv_Sc_kindOf lk_G_160 (by decide) sel_Sc_kindOf hq_Sc ly_1 (by omega) (k_Sc_kindOf l n M hn hS (M 7 (r - 1)) f) rfl rfl (Nat.le_of_ble_eq_true rfl) ⟨Nat.zero_le _, Nat.zero_le _⟩ rfl ?_
    refine A_goto (tgt := 31) hC d_G_kindIn_27 (by decide) ?_
    refine A_iret hC d_G_kindIn_31 rfl (Nat.le_refl _) (Nat.le_refl _) ?_
    exact ⟨fx_r (by unfold kIn; repeat (first | omega | split)), rfl, rfl⟩
theorem kIn_in {M : Mem} {r f : Int} (h : ¬ kIn M r f = -1) : (1 ≤ r ∧ r ≤ M 6 4) ∧ hasF M (M 7 (r - 1)) f := by
  unfold kIn at h
  split at h
  · rename_i h1
    refine ⟨h1, ?_⟩
    split at h
    · assumption
    · exact absurd rfl h
  · exact absurd rfl h
set_option maxHeartbeats 4000000 in
theorem k_G_type (l : Launch) (n : Nat) (M : Mem) (hn : 117 ≤ n) (hS : SC M) : AF l m_G_type 2 [.inr 0] n M (some (.inl (if 5 ≤ M 1 4 ∨ 0 < M 6 4 then -2 else M 1 4))) (if 5 ≤ M 1 4 ∨ 0 < M 6 4 then M else up M 1 4 (M 1 4 + 1)) := by
  refine AM_intro (by decide) (Nat.le_of_ble_eq_true rfl) (fun X b0 D hC _ => ?_)
  show AW X b0 D true 0 0 _ n M 0 [some (.inr 0)] []
  refine A_ald0 hC d_G_type_0 ?_
  refine A_getCR (v := 1) hC d_G_type_1 fF_G_12 ⟨by decide, rfl⟩ ly_0 (by omega) ⟨rfl, by decide⟩ cv_0_0 ?_
  refine A_getI (kI := 4) hC d_G_type_4 fF_G_57 ⟨by decide, rfl⟩ rfl ly_1 (by omega) ?_
  refine A_iconst hC d_G_type_7 (by decide) ?_
  refine A_icmpge (tgt := 21) hC d_G_type_8 (by decide) (fun h8 => ?_) (fun h8 => ?_)
  · refine A_bipush hC d_G_type_21 (by decide) (by decide) ?_
    refine A_iret hC d_G_type_23 rfl (Nat.le_refl _) (Nat.le_refl _) ?_
    exact ⟨fx_r (by repeat (first | omega | split)), rfl, by repeat (first | rfl | omega | split)⟩
  · refine A_ald0 hC d_G_type_11 ?_
    refine A_getCR (v := 6) hC d_G_type_12 fF_G_19 ⟨by decide, rfl⟩ ly_0 (by omega) ⟨rfl, by decide⟩ cv_0_1 ?_
    refine A_getI (kI := 4) hC d_G_type_15 fF_G_61 ⟨by decide, rfl⟩ rfl ly_6 (by omega) ?_
    refine A_ifle (tgt := 24) hC d_G_type_18 (by decide) (fun h18 => ?_) (fun h18 => ?_)
    · refine A_ald0 hC d_G_type_24 ?_
      refine A_getCR (v := 1) hC d_G_type_25 fF_G_12 ⟨by decide, rfl⟩ ly_0 (by omega) ⟨rfl, by decide⟩ cv_0_0 ?_
      refine A_VF1 (as := []) hC d_G_type_28 mv_Sc_addType lk_G_64 (by decide) sel_Sc_addType hq_Sc ly_1 (by omega) (k_Sc_addType l n M hn hS) rfl rfl (Nat.le_of_ble_eq_true rfl) ⟨Nat.zero_le _, Nat.zero_le _⟩ rfl ?_
      refine A_iret hC d_G_type_31 rfl (Nat.le_refl _) (Nat.le_refl _) ?_
      exact ⟨fx_r (by repeat (first | omega | split)), rfl, by repeat (first | rfl | omega | split)⟩
    · refine A_bipush hC d_G_type_21 (by decide) (by decide) ?_
      refine A_iret hC d_G_type_23 rfl (Nat.le_refl _) (Nat.le_refl _) ?_
      exact ⟨fx_r (by repeat (first | omega | split)), rfl, by repeat (first | rfl | omega | split)⟩
abbrev fdB (M : Mem) (t k g : Int) : Prop := ¬ (0 ≤ t ∧ t < M 1 4) ∨ ¬ (0 ≤ k ∧ k ≤ 2) ∨ ¬ (0 ≤ g ∧ g ≤ 5) ∨ (¬ k = 0 ∧ ¬ g = 5 ∧ ¬ (0 ≤ g ∧ g < M 1 4))
abbrev fdF (M : Mem) (t : Int) : Prop := 0 < M 6 4 ∨ 4 ≤ M 2 t
set_option maxHeartbeats 4000000 in
theorem k_G_field (l : Launch) (n : Nat) (M : Mem) (hn : 117 ≤ n) (hS : SC M) (t k g r : Int) (hr : r = 0 ∨ r = 1) : AF l m_G_field 2 [.inr 0, .inl t, .inl k, .inl g, .inl r] n M (some (.inl (if fdB M t k g then -1 else if fdF M t then -2 else M 2 t))) (if fdB M t k g then M else if fdF M t then M else up (up (up (up M 3 (t * 4 + M 2 t) k) 4 (t * 4 + M 2 t) g) 5 (t * 4 + M 2 t) r) 2 t (M 2 t + 1)) := by
  refine AM_intro (by decide) (Nat.le_of_ble_eq_true rfl) (fun X b0 D hC _ => ?_)
  show AW X b0 D true 0 0 _ n M 0 [some (.inr 0), some (.inl t), some (.inl k), some (.inl g), some (.inl r)] []
  have hS1 := hS.1
  have hS2 := hS.2.1
  have hS3 := hS.2.2 t
  refine A_ald0 hC d_G_field_0 ?_
  refine A_getCR (v := 1) hC d_G_field_1 fF_G_12 ⟨by decide, rfl⟩ ly_0 (by omega) ⟨rfl, by decide⟩ cv_0_0 ?_
  refine A_ild1 hC d_G_field_4 ?_
  refine A_VF1 (as := [.inl t]) hC d_G_field_5 mv_Sc_hasType lk_G_68 (by decide) sel_Sc_hasType hq_Sc ly_1 (by omega) (k_Sc_hasType l n M hn t) rfl rfl (Nat.le_of_ble_eq_true rfl) ⟨Nat.zero_le _, Nat.zero_le _⟩ rfl ?_
  refine A_ifeq (tgt := 29) hC d_G_field_8 (by decide) (fun h8 => ?_) (fun h8 => ?_)
  · refine A_iconst hC d_G_field_29 (by decide) ?_
    refine A_iret hC d_G_field_30 rfl (Nat.le_refl _) (Nat.le_refl _) ?_
    exact ⟨fx_r (by repeat (first | omega | split)), rfl, by repeat (first | rfl | omega | split)⟩
  · refine A_ild2 hC d_G_field_11 ?_
    refine A_iconst hC d_G_field_12 (by decide) ?_
    refine A_iconst hC d_G_field_13 (by decide) ?_
    refine A_SF1 (as := [.inl k, .inl 0, .inl 2]) hC d_G_field_14 mv_G_isWithin lk_G_72 (by decide) (k_G_isWithin l n M hn k 0 2) rfl rfl (Nat.le_of_ble_eq_true rfl) ⟨Nat.zero_le _, Nat.zero_le _⟩ rfl ?_
    refine A_ifeq (tgt := 29) hC d_G_field_17 (by decide) (fun h17 => ?_) (fun h17 => ?_)
    · refine A_iconst hC d_G_field_29 (by decide) ?_
      refine A_iret hC d_G_field_30 rfl (Nat.le_refl _) (Nat.le_refl _) ?_
      exact ⟨fx_r (by repeat (first | omega | split)), rfl, by repeat (first | rfl | omega | split)⟩
    · refine A_ild3 hC d_G_field_20 ?_
      refine A_iconst hC d_G_field_21 (by decide) ?_
      refine A_iconst hC d_G_field_22 (by decide) ?_
      refine A_SF1 (as := [.inl g, .inl 0, .inl 5]) hC d_G_field_23 mv_G_isWithin lk_G_72 (by decide) (k_G_isWithin l n M hn g 0 5) rfl rfl (Nat.le_of_ble_eq_true rfl) ⟨Nat.zero_le _, Nat.zero_le _⟩ rfl ?_
      refine A_ifne (tgt := 31) hC d_G_field_26 (by decide) (fun h26 => ?_) (fun h26 => ?_)
      · refine A_ild2 hC d_G_field_31 ?_
        refine A_ifeq (tgt := 53) hC d_G_field_32 (by decide) (fun h32 => ?_) (fun h32 => ?_)
        · refine A_ald0 hC d_G_field_53 ?_
          refine A_getCR (v := 6) hC d_G_field_54 fF_G_19 ⟨by decide, rfl⟩ ly_0 (by omega) ⟨rfl, by decide⟩ cv_0_1 ?_
          refine A_getI (kI := 4) hC d_G_field_57 fF_G_61 ⟨by decide, rfl⟩ rfl ly_6 (by omega) ?_
          refine A_ifgt (tgt := 76) hC d_G_field_60 (by decide) (fun h60 => ?_) (fun h60 => ?_)
          · refine A_bipush hC d_G_field_76 (by decide) (by decide) ?_
            refine A_iret hC d_G_field_78 rfl (Nat.le_refl _) (Nat.le_refl _) ?_
            exact ⟨fx_r (by repeat (first | omega | split)), rfl, by repeat (first | rfl | omega | split)⟩
          · refine A_ald0 hC d_G_field_63 ?_
            refine A_getCR (v := 1) hC d_G_field_64 fF_G_12 ⟨by decide, rfl⟩ ly_0 (by omega) ⟨rfl, by decide⟩ cv_0_0 ?_
            refine A_getCR (v := 2) hC d_G_field_67 fF_G_76 ⟨by decide, rfl⟩ ly_1 (by omega) ⟨rfl, by decide⟩ cv_1_0 ?_
            refine A_ild1 hC d_G_field_70 ?_
            refine A_iald hC d_G_field_71 ly_2 (by omega) (by omega) ?_
            refine A_iconst hC d_G_field_72 (by decide) ?_
            refine A_icmplt (tgt := 79) hC d_G_field_73 (by decide) (fun h73 => ?_) (fun h73 => ?_)
            · refine A_ald0 hC d_G_field_79 ?_
              refine A_getCR (v := 1) hC d_G_field_80 fF_G_12 ⟨by decide, rfl⟩ ly_0 (by omega) ⟨rfl, by decide⟩ cv_0_0 ?_
              refine A_ild1 hC d_G_field_83 ?_
              refine A_ild2 hC d_G_field_84 ?_
              refine A_ild3 hC d_G_field_85 ?_
              refine A_ild4 hC d_G_field_86 ?_
              refine A_VF1 (as := [.inl t, .inl k, .inl g, .inl r]) hC d_G_field_88 mv_Sc_addField lk_G_79 (by decide) sel_Sc_addField hq_Sc ly_1 (by omega) (k_Sc_addField l n M hn t k g r (by omega) (by omega) (by omega)) rfl rfl (Nat.le_of_ble_eq_true rfl) ⟨Nat.zero_le _, Nat.zero_le _⟩ rfl ?_
              refine A_iret hC d_G_field_91 rfl (Nat.le_refl _) (Nat.le_refl _) ?_
              exact ⟨fx_r (by repeat (first | omega | split)), rfl, by repeat (first | rfl | omega | split)⟩
            · refine A_bipush hC d_G_field_76 (by decide) (by decide) ?_
              refine A_iret hC d_G_field_78 rfl (Nat.le_refl _) (Nat.le_refl _) ?_
              exact ⟨fx_r (by repeat (first | omega | split)), rfl, by repeat (first | rfl | omega | split)⟩
        · refine A_ild3 hC d_G_field_35 ?_
          refine A_iconst hC d_G_field_36 (by decide) ?_
          refine A_icmpeq (tgt := 53) hC d_G_field_37 (by decide) (fun h37 => ?_) (fun h37 => ?_)
          · refine A_ald0 hC d_G_field_53 ?_
            refine A_getCR (v := 6) hC d_G_field_54 fF_G_19 ⟨by decide, rfl⟩ ly_0 (by omega) ⟨rfl, by decide⟩ cv_0_1 ?_
            refine A_getI (kI := 4) hC d_G_field_57 fF_G_61 ⟨by decide, rfl⟩ rfl ly_6 (by omega) ?_
            refine A_ifgt (tgt := 76) hC d_G_field_60 (by decide) (fun h60 => ?_) (fun h60 => ?_)
            · refine A_bipush hC d_G_field_76 (by decide) (by decide) ?_
              refine A_iret hC d_G_field_78 rfl (Nat.le_refl _) (Nat.le_refl _) ?_
              exact ⟨fx_r (by repeat (first | omega | split)), rfl, by repeat (first | rfl | omega | split)⟩
            · refine A_ald0 hC d_G_field_63 ?_
              refine A_getCR (v := 1) hC d_G_field_64 fF_G_12 ⟨by decide, rfl⟩ ly_0 (by omega) ⟨rfl, by decide⟩ cv_0_0 ?_
              refine A_getCR (v := 2) hC d_G_field_67 fF_G_76 ⟨by decide, rfl⟩ ly_1 (by omega) ⟨rfl, by decide⟩ cv_1_0 ?_
              refine A_ild1 hC d_G_field_70 ?_
              refine A_iald hC d_G_field_71 ly_2 (by omega) (by omega) ?_
              refine A_iconst hC d_G_field_72 (by decide) ?_
              refine A_icmplt (tgt := 79) hC d_G_field_73 (by decide) (fun h73 => ?_) (fun h73 => ?_)
              · refine A_ald0 hC d_G_field_79 ?_
                refine A_getCR (v := 1) hC d_G_field_80 fF_G_12 ⟨by decide, rfl⟩ ly_0 (by omega) ⟨rfl, by decide⟩ cv_0_0 ?_
                refine A_ild1 hC d_G_field_83 ?_
                refine A_ild2 hC d_G_field_84 ?_
                refine A_ild3 hC d_G_field_85 ?_
                refine A_ild4 hC d_G_field_86 ?_
                refine A_VF1 (as := [.inl t, .inl k, .inl g, .inl r]) hC d_G_field_88 mv_Sc_addField lk_G_79 (by decide) sel_Sc_addField hq_Sc ly_1 (by omega) (k_Sc_addField l n M hn t k g r (by omega) (by omega) (by omega)) rfl rfl (Nat.le_of_ble_eq_true rfl) ⟨Nat.zero_le _, Nat.zero_le _⟩ rfl ?_
                refine A_iret hC d_G_field_91 rfl (Nat.le_refl _) (Nat.le_refl _) ?_
                exact ⟨fx_r (by repeat (first | omega | split)), rfl, by repeat (first | rfl | omega | split)⟩
              · refine A_bipush hC d_G_field_76 (by decide) (by decide) ?_
                refine A_iret hC d_G_field_78 rfl (Nat.le_refl _) (Nat.le_refl _) ?_
                exact ⟨fx_r (by repeat (first | omega | split)), rfl, by repeat (first | rfl | omega | split)⟩
          · refine A_ald0 hC d_G_field_40 ?_
            refine A_getCR (v := 1) hC d_G_field_41 fF_G_12 ⟨by decide, rfl⟩ ly_0 (by omega) ⟨rfl, by decide⟩ cv_0_0 ?_
            refine A_ild3 hC d_G_field_44 ?_
            refine A_VF1 (as := [.inl g]) hC d_G_field_45 mv_Sc_hasType lk_G_68 (by decide) sel_Sc_hasType hq_Sc ly_1 (by omega) (k_Sc_hasType l n M hn g) rfl rfl (Nat.le_of_ble_eq_true rfl) ⟨Nat.zero_le _, Nat.zero_le _⟩ rfl ?_
            refine A_ifne (tgt := 53) hC d_G_field_48 (by decide) (fun h48 => ?_) (fun h48 => ?_)
            · refine A_ald0 hC d_G_field_53 ?_
              refine A_getCR (v := 6) hC d_G_field_54 fF_G_19 ⟨by decide, rfl⟩ ly_0 (by omega) ⟨rfl, by decide⟩ cv_0_1 ?_
              refine A_getI (kI := 4) hC d_G_field_57 fF_G_61 ⟨by decide, rfl⟩ rfl ly_6 (by omega) ?_
              refine A_ifgt (tgt := 76) hC d_G_field_60 (by decide) (fun h60 => ?_) (fun h60 => ?_)
              · refine A_bipush hC d_G_field_76 (by decide) (by decide) ?_
                refine A_iret hC d_G_field_78 rfl (Nat.le_refl _) (Nat.le_refl _) ?_
                exact ⟨fx_r (by repeat (first | omega | split)), rfl, by repeat (first | rfl | omega | split)⟩
              · refine A_ald0 hC d_G_field_63 ?_
                refine A_getCR (v := 1) hC d_G_field_64 fF_G_12 ⟨by decide, rfl⟩ ly_0 (by omega) ⟨rfl, by decide⟩ cv_0_0 ?_
                refine A_getCR (v := 2) hC d_G_field_67 fF_G_76 ⟨by decide, rfl⟩ ly_1 (by omega) ⟨rfl, by decide⟩ cv_1_0 ?_
                refine A_ild1 hC d_G_field_70 ?_
                refine A_iald hC d_G_field_71 ly_2 (by omega) (by omega) ?_
                refine A_iconst hC d_G_field_72 (by decide) ?_
                refine A_icmplt (tgt := 79) hC d_G_field_73 (by decide) (fun h73 => ?_) (fun h73 => ?_)
                · refine A_ald0 hC d_G_field_79 ?_
                  refine A_getCR (v := 1) hC d_G_field_80 fF_G_12 ⟨by decide, rfl⟩ ly_0 (by omega) ⟨rfl, by decide⟩ cv_0_0 ?_
                  refine A_ild1 hC d_G_field_83 ?_
                  refine A_ild2 hC d_G_field_84 ?_
                  refine A_ild3 hC d_G_field_85 ?_
                  refine A_ild4 hC d_G_field_86 ?_
                  refine A_VF1 (as := [.inl t, .inl k, .inl g, .inl r]) hC d_G_field_88 mv_Sc_addField lk_G_79 (by decide) sel_Sc_addField hq_Sc ly_1 (by omega) (k_Sc_addField l n M hn t k g r (by omega) (by omega) (by omega)) rfl rfl (Nat.le_of_ble_eq_true rfl) ⟨Nat.zero_le _, Nat.zero_le _⟩ rfl ?_
                  refine A_iret hC d_G_field_91 rfl (Nat.le_refl _) (Nat.le_refl _) ?_
                  exact ⟨fx_r (by repeat (first | omega | split)), rfl, by repeat (first | rfl | omega | split)⟩
                · refine A_bipush hC d_G_field_76 (by decide) (by decide) ?_
                  refine A_iret hC d_G_field_78 rfl (Nat.le_refl _) (Nat.le_refl _) ?_
                  exact ⟨fx_r (by repeat (first | omega | split)), rfl, by repeat (first | rfl | omega | split)⟩
            · refine A_iconst hC d_G_field_51 (by decide) ?_
              refine A_iret hC d_G_field_52 rfl (Nat.le_refl _) (Nat.le_refl _) ?_
              exact ⟨fx_r (by repeat (first | omega | split)), rfl, by repeat (first | rfl | omega | split)⟩
      · refine A_iconst hC d_G_field_29 (by decide) ?_
        refine A_iret hC d_G_field_30 rfl (Nat.le_refl _) (Nat.le_refl _) ?_
        exact ⟨fx_r (by repeat (first | omega | split)), rfl, by repeat (first | rfl | omega | split)⟩
def adR (M : Mem) (t : Int) : Mem := up (up (up (up (up (up (up (up (up (up M 7 (M 6 4) t) 6 4 (M 6 4 + 1)) 8 (((M 6 4 + 1) - 1) * 4 + 0) (-1)) 9 (((M 6 4 + 1) - 1) * 4 + 0) 0) 8 (((M 6 4 + 1) - 1) * 4 + (0 + 1)) (-1)) 9 (((M 6 4 + 1) - 1) * 4 + (0 + 1)) 0) 8 (((M 6 4 + 1) - 1) * 4 + (0 + 1 + 1)) (-1)) 9 (((M 6 4 + 1) - 1) * 4 + (0 + 1 + 1)) 0) 8 (((M 6 4 + 1) - 1) * 4 + (0 + 1 + 1 + 1)) (-1)) 9 (((M 6 4 + 1) - 1) * 4 + (0 + 1 + 1 + 1)) 0
set_option maxHeartbeats 4000000 in
theorem k_Ro_addRow (l : Launch) (n : Nat) (M : Mem) (hn : 117 ≤ n) (t : Int) (hR : 0 ≤ M 6 4 ∧ M 6 4 ≤ 11) : AF l m_Ro_addRow 3 [.inr 6, .inl t] n M (some (.inl (M 6 4 + 1))) (adR M t) := by
  refine AM_intro (by decide) (Nat.le_of_ble_eq_true rfl) (fun X b0 D hC _ => ?_)
  show AW X b0 D true 0 0 _ n M 0 [some (.inr 6), some (.inl t), none] []
  refine A_ald0 hC d_Ro_addRow_0 ?_
  refine A_getCR (v := 7) hC d_Ro_addRow_1 fF_Ro_9 ⟨by decide, rfl⟩ ly_6 (by omega) ⟨rfl, by decide⟩ cv_6_0 ?_
  refine A_ald0 hC d_Ro_addRow_4 ?_
  refine A_getI (kI := 4) hC d_Ro_addRow_5 fF_Ro_24 ⟨by decide, rfl⟩ rfl ly_6 (by omega) ?_
  refine A_ild1 hC d_Ro_addRow_8 ?_
  refine A_iast hC d_Ro_addRow_9 ly_7 (by omega) (by omega) (fun _ => kk_i _) ?_
  refine A_ald0 hC d_Ro_addRow_10 ?_
  refine A_dup hC d_Ro_addRow_11 ?_
  refine A_getIE (x := M 6 4) (kI := 4) hC d_Ro_addRow_12 fF_Ro_24 ⟨by decide, rfl⟩ rfl ly_6 (by omega) (by rw [up_nc (c := 7) (c' := 6) (by decide)]) ?_
  refine A_iconst hC d_Ro_addRow_15 (by decide) ?_
  refine A_iadd hC d_Ro_addRow_16 (by omega) ?_
  refine A_putI (kI := 4) hC d_Ro_addRow_17 fP_Ro_24 ⟨by decide, rfl⟩ rfl ly_6 (by omega) (fun _ => by decide) ?_
  refine A_iconst hC d_Ro_addRow_20 (by decide) ?_
  refine A_ist2 hC d_Ro_addRow_21 ?_
  refine A_ild2 hC d_Ro_addRow_22 ?_
  refine A_iconst hC d_Ro_addRow_23 (by decide) ?_
  refine A_icmpge (tgt := 42) hC d_Ro_addRow_24 (by decide) (fun h24 => ?_) (fun h24 => ?_)
  · exact absurd h24 (by decide)
  refine A_ald0 hC d_Ro_addRow_27 ?_
  refine A_ald0 hC d_Ro_addRow_28 ?_
  refine A_getIE (x := (M 6 4) + 1) (kI := 4) hC d_Ro_addRow_29 fF_Ro_24 ⟨by decide, rfl⟩ rfl ly_6 (by omega) (by rw [up_eq]) ?_
  refine A_ild2 hC d_Ro_addRow_32 ?_
  refine A_VF0 (as := [.inl ((M 6 4) + 1), .inl 0]) hC d_Ro_addRow_33 mv_Ro_emptyField lk_Ro_32 (by decide) sel_Ro_emptyField hq_Ro ly_6 (by omega) (k_Ro_emptyField l n (up (up M 7 (M 6 4) t) 6 4 ((M 6 4) + 1)) hn ((M 6 4) + 1) 0 (by omega) (by omega)) rfl rfl (Nat.le_of_ble_eq_true rfl) ⟨Nat.zero_le _, Nat.zero_le _⟩ rfl ?_
  refine A_iinc2 hC d_Ro_addRow_36 (by omega) ?_
  refine A_goto (tgt := 22) hC d_Ro_addRow_39 (by decide) ?_
  refine A_ild2 hC d_Ro_addRow_22 ?_
  refine A_iconst hC d_Ro_addRow_23 (by decide) ?_
  refine A_icmpge (tgt := 42) hC d_Ro_addRow_24 (by decide) (fun h24 => ?_) (fun h24 => ?_)
  · exact absurd h24 (by decide)
  refine A_ald0 hC d_Ro_addRow_27 ?_
  refine A_ald0 hC d_Ro_addRow_28 ?_
  refine A_getIE (x := (M 6 4) + 1) (kI := 4) hC d_Ro_addRow_29 fF_Ro_24 ⟨by decide, rfl⟩ rfl ly_6 (by omega) (by rw [up_nc (c := 9) (c' := 6) (by decide), up_nc (c := 8) (c' := 6) (by decide), up_eq]) ?_
  refine A_ild2 hC d_Ro_addRow_32 ?_
  refine A_VF0 (as := [.inl ((M 6 4) + 1), .inl (0 + 1)]) hC d_Ro_addRow_33 mv_Ro_emptyField lk_Ro_32 (by decide) sel_Ro_emptyField hq_Ro ly_6 (by omega) (k_Ro_emptyField l n (up (up (up (up M 7 (M 6 4) t) 6 4 ((M 6 4) + 1)) 8 ((((M 6 4) + 1) - 1) * 4 + 0) (-1)) 9 ((((M 6 4) + 1) - 1) * 4 + 0) 0) hn ((M 6 4) + 1) (0 + 1) (by omega) (by omega)) rfl rfl (Nat.le_of_ble_eq_true rfl) ⟨Nat.zero_le _, Nat.zero_le _⟩ rfl ?_
  refine A_iinc2 hC d_Ro_addRow_36 (by omega) ?_
  refine A_goto (tgt := 22) hC d_Ro_addRow_39 (by decide) ?_
  refine A_ild2 hC d_Ro_addRow_22 ?_
  refine A_iconst hC d_Ro_addRow_23 (by decide) ?_
  refine A_icmpge (tgt := 42) hC d_Ro_addRow_24 (by decide) (fun h24 => ?_) (fun h24 => ?_)
  · exact absurd h24 (by decide)
  refine A_ald0 hC d_Ro_addRow_27 ?_
  refine A_ald0 hC d_Ro_addRow_28 ?_
  refine A_getIE (x := (M 6 4) + 1) (kI := 4) hC d_Ro_addRow_29 fF_Ro_24 ⟨by decide, rfl⟩ rfl ly_6 (by omega) (by rw [up_nc (c := 9) (c' := 6) (by decide), up_nc (c := 8) (c' := 6) (by decide), up_nc (c := 9) (c' := 6) (by decide), up_nc (c := 8) (c' := 6) (by decide), up_eq]) ?_
  refine A_ild2 hC d_Ro_addRow_32 ?_
  refine A_VF0 (as := [.inl ((M 6 4) + 1), .inl (0 + 1 + 1)]) hC d_Ro_addRow_33 mv_Ro_emptyField lk_Ro_32 (by decide) sel_Ro_emptyField hq_Ro ly_6 (by omega) (k_Ro_emptyField l n (up (up (up (up (up (up M 7 (M 6 4) t) 6 4 ((M 6 4) + 1)) 8 ((((M 6 4) + 1) - 1) * 4 + 0) (-1)) 9 ((((M 6 4) + 1) - 1) * 4 + 0) 0) 8 ((((M 6 4) + 1) - 1) * 4 + (0 + 1)) (-1)) 9 ((((M 6 4) + 1) - 1) * 4 + (0 + 1)) 0) hn ((M 6 4) + 1) (0 + 1 + 1) (by omega) (by omega)) rfl rfl (Nat.le_of_ble_eq_true rfl) ⟨Nat.zero_le _, Nat.zero_le _⟩ rfl ?_
  refine A_iinc2 hC d_Ro_addRow_36 (by omega) ?_
  refine A_goto (tgt := 22) hC d_Ro_addRow_39 (by decide) ?_
  refine A_ild2 hC d_Ro_addRow_22 ?_
  refine A_iconst hC d_Ro_addRow_23 (by decide) ?_
  refine A_icmpge (tgt := 42) hC d_Ro_addRow_24 (by decide) (fun h24 => ?_) (fun h24 => ?_)
  · exact absurd h24 (by decide)
  refine A_ald0 hC d_Ro_addRow_27 ?_
  refine A_ald0 hC d_Ro_addRow_28 ?_
  refine A_getIE (x := (M 6 4) + 1) (kI := 4) hC d_Ro_addRow_29 fF_Ro_24 ⟨by decide, rfl⟩ rfl ly_6 (by omega) (by rw [up_nc (c := 9) (c' := 6) (by decide), up_nc (c := 8) (c' := 6) (by decide), up_nc (c := 9) (c' := 6) (by decide), up_nc (c := 8) (c' := 6) (by decide), up_nc (c := 9) (c' := 6) (by decide), up_nc (c := 8) (c' := 6) (by decide), up_eq]) ?_
  refine A_ild2 hC d_Ro_addRow_32 ?_
  refine A_VF0 (as := [.inl ((M 6 4) + 1), .inl (0 + 1 + 1 + 1)]) hC d_Ro_addRow_33 mv_Ro_emptyField lk_Ro_32 (by decide) sel_Ro_emptyField hq_Ro ly_6 (by omega) (k_Ro_emptyField l n (up (up (up (up (up (up (up (up M 7 (M 6 4) t) 6 4 ((M 6 4) + 1)) 8 ((((M 6 4) + 1) - 1) * 4 + 0) (-1)) 9 ((((M 6 4) + 1) - 1) * 4 + 0) 0) 8 ((((M 6 4) + 1) - 1) * 4 + (0 + 1)) (-1)) 9 ((((M 6 4) + 1) - 1) * 4 + (0 + 1)) 0) 8 ((((M 6 4) + 1) - 1) * 4 + (0 + 1 + 1)) (-1)) 9 ((((M 6 4) + 1) - 1) * 4 + (0 + 1 + 1)) 0) hn ((M 6 4) + 1) (0 + 1 + 1 + 1) (by omega) (by omega)) rfl rfl (Nat.le_of_ble_eq_true rfl) ⟨Nat.zero_le _, Nat.zero_le _⟩ rfl ?_
  refine A_iinc2 hC d_Ro_addRow_36 (by omega) ?_
  refine A_goto (tgt := 22) hC d_Ro_addRow_39 (by decide) ?_
  refine A_ild2 hC d_Ro_addRow_22 ?_
  refine A_iconst hC d_Ro_addRow_23 (by decide) ?_
  refine A_icmpge (tgt := 42) hC d_Ro_addRow_24 (by decide) (fun h24 => ?_) (fun h24 => ?_)
  rotate_left
  · exact absurd h24 (by decide)
  refine A_ald0 hC d_Ro_addRow_42 ?_
  refine A_getIE (x := (M 6 4) + 1) (kI := 4) hC d_Ro_addRow_43 fF_Ro_24 ⟨by decide, rfl⟩ rfl ly_6 (by omega) (by rw [up_nc (c := 9) (c' := 6) (by decide), up_nc (c := 8) (c' := 6) (by decide), up_nc (c := 9) (c' := 6) (by decide), up_nc (c := 8) (c' := 6) (by decide), up_nc (c := 9) (c' := 6) (by decide), up_nc (c := 8) (c' := 6) (by decide), up_nc (c := 9) (c' := 6) (by decide), up_nc (c := 8) (c' := 6) (by decide), up_eq]) ?_
  refine A_iret hC d_Ro_addRow_46 rfl (Nat.le_refl _) (Nat.le_refl _) ?_
  exact ⟨rfl, rfl, rfl⟩
set_option maxHeartbeats 4000000 in
theorem k_G_row (l : Launch) (n : Nat) (M : Mem) (hn : 117 ≤ n) (hR : RC M) (t : Int) : AF l m_G_row 4 [.inr 0, .inl t] n M (some (.inl (if ¬ (0 ≤ t ∧ t < M 1 4) then -1 else if 12 ≤ M 6 4 then -2 else M 6 4 + 1))) (if ¬ (0 ≤ t ∧ t < M 1 4) then M else if 12 ≤ M 6 4 then M else adR M t) := by
  refine AM_intro (by decide) (Nat.le_of_ble_eq_true rfl) (fun X b0 D hC _ => ?_)
  show AW X b0 D true 0 0 _ n M 0 [some (.inr 0), some (.inl t)] []
  have hR1 := hR.1
  have hR2 := hR.2
  refine A_ald0 hC d_G_row_0 ?_
  refine A_getCR (v := 1) hC d_G_row_1 fF_G_12 ⟨by decide, rfl⟩ ly_0 (by omega) ⟨rfl, by decide⟩ cv_0_0 ?_
  refine A_ild1 hC d_G_row_4 ?_
  refine A_VF1 (as := [.inl t]) hC d_G_row_5 mv_Sc_hasType lk_G_68 (by decide) sel_Sc_hasType hq_Sc ly_1 (by omega) (k_Sc_hasType l n M hn t) rfl rfl (Nat.le_of_ble_eq_true rfl) ⟨Nat.zero_le _, Nat.zero_le _⟩ rfl ?_
  refine A_ifne (tgt := 13) hC d_G_row_8 (by decide) (fun h8 => ?_) (fun h8 => ?_)
  · refine A_ald0 hC d_G_row_13 ?_
    refine A_getCR (v := 6) hC d_G_row_14 fF_G_19 ⟨by decide, rfl⟩ ly_0 (by omega) ⟨rfl, by decide⟩ cv_0_1 ?_
    refine A_getI (kI := 4) hC d_G_row_17 fF_G_61 ⟨by decide, rfl⟩ rfl ly_6 (by omega) ?_
    refine A_bipush hC d_G_row_20 (by decide) (by decide) ?_
    refine A_icmplt (tgt := 28) hC d_G_row_22 (by decide) (fun h22 => ?_) (fun h22 => ?_)
    · refine A_ald0 hC d_G_row_28 ?_
      refine A_getCR (v := 6) hC d_G_row_29 fF_G_19 ⟨by decide, rfl⟩ ly_0 (by omega) ⟨rfl, by decide⟩ cv_0_1 ?_
      refine A_ild1 hC d_G_row_32 ?_
      refine A_VF1 (as := [.inl t]) hC d_G_row_33 mv_Ro_addRow lk_G_83 (by decide) sel_Ro_addRow hq_Ro ly_6 (by omega) (k_Ro_addRow l n M hn t (by omega)) rfl rfl (Nat.le_of_ble_eq_true rfl) ⟨Nat.zero_le _, Nat.zero_le _⟩ rfl ?_
      refine A_iret hC d_G_row_36 rfl (Nat.le_refl _) (Nat.le_refl _) ?_
      exact ⟨fx_r (by repeat (first | omega | split)), rfl, by repeat (first | rfl | omega | split)⟩
    · refine A_bipush hC d_G_row_25 (by decide) (by decide) ?_
      refine A_iret hC d_G_row_27 rfl (Nat.le_refl _) (Nat.le_refl _) ?_
      exact ⟨fx_r (by repeat (first | omega | split)), rfl, by repeat (first | rfl | omega | split)⟩
  · refine A_iconst hC d_G_row_11 (by decide) ?_
    refine A_iret hC d_G_row_12 rfl (Nat.le_refl _) (Nat.le_refl _) ?_
    exact ⟨fx_r (by repeat (first | omega | split)), rfl, by repeat (first | rfl | omega | split)⟩
set_option maxHeartbeats 4000000 in
theorem k_G_put (l : Launch) (n : Nat) (M : Mem) (hn : 117 ≤ n) (hS : SC M) (hR : RC M) (r f x : Int) : AF l m_G_put 5 [.inr 0, .inl r, .inl f, .inl x] n M (some (.inl (if ¬ kIn M r f = 0 ∨ ¬ (0 ≤ x ∧ x ≤ 999) then -1 else 0))) (if ¬ kIn M r f = 0 ∨ ¬ (0 ≤ x ∧ x ≤ 999) then M else up M 8 ((r - 1) * 4 + f) x) := by
  refine AM_intro (by decide) (Nat.le_of_ble_eq_true rfl) (fun X b0 D hC _ => ?_)
  show AW X b0 D true 0 0 _ n M 0 [some (.inr 0), some (.inl r), some (.inl f), some (.inl x)] []
  have hS1 := hS.1
  have hS2 := hS.2.1
  have hR1 := hR.1
  have hR2 := hR.2
  have hS3 := hS.2.2 (M 7 (r - 1))
  refine A_ald0 hC d_G_put_0 ?_
  refine A_ild1 hC d_G_put_1 ?_
  refine A_ild2 hC d_G_put_2 ?_
  refine A_VF1 (as := [.inl r, .inl f]) hC d_G_put_3 mv_G_kindIn lk_G_87 (by decide) sel_G_kindIn hq_G ly_0 (by omega) (k_G_kindIn l n M hn hS hR r f) rfl rfl (Nat.le_of_ble_eq_true rfl) ⟨Nat.zero_le _, Nat.zero_le _⟩ rfl ?_
  refine A_ifne (tgt := 20) hC d_G_put_6 (by decide) (fun h6 => ?_) (fun h6 => ?_)
  · refine A_iconst hC d_G_put_20 (by decide) ?_
    refine A_iret hC d_G_put_21 rfl (Nat.le_refl _) (Nat.le_refl _) ?_
    exact ⟨fx_r (by repeat (first | omega | split)), rfl, by repeat (first | rfl | omega | split)⟩
  · refine A_ild3 hC d_G_put_9 ?_
    refine A_iconst hC d_G_put_10 (by decide) ?_
    refine A_sipush hC d_G_put_11 (by decide) (by decide) ?_
    refine A_SF1 (as := [.inl x, .inl 0, .inl 999]) hC d_G_put_14 mv_G_isWithin lk_G_72 (by decide) (k_G_isWithin l n M hn x 0 999) rfl rfl (Nat.le_of_ble_eq_true rfl) ⟨Nat.zero_le _, Nat.zero_le _⟩ rfl ?_
    refine A_ifne (tgt := 22) hC d_G_put_17 (by decide) (fun h17 => ?_) (fun h17 => ?_)
    · refine A_ald0 hC d_G_put_22 ?_
      refine A_getCR (v := 6) hC d_G_put_23 fF_G_19 ⟨by decide, rfl⟩ ly_0 (by omega) ⟨rfl, by decide⟩ cv_0_1 ?_
      refine A_ild1 hC d_G_put_26 ?_
      refine A_ild2 hC d_G_put_27 ?_
      refine A_ild3 hC d_G_put_28 ?_
      have hkk := kIn_in (M := M) (r := r) (f := f) (by omega)
      refine A_VF0 (as := [.inl r, .inl f, .inl x]) hC d_G_put_29 mv_Ro_holdNumber lk_G_91 (by decide) sel_Ro_holdNumber hq_Ro ly_6 (by omega) (k_Ro_holdNumber l n M hn r f x (by omega) (by omega)) rfl rfl (Nat.le_of_ble_eq_true rfl) ⟨Nat.zero_le _, Nat.zero_le _⟩ rfl ?_
      refine A_iconst hC d_G_put_32 (by decide) ?_
      refine A_iret hC d_G_put_33 rfl (Nat.le_refl _) (Nat.le_refl _) ?_
      exact ⟨fx_r (by repeat (first | omega | split)), rfl, by repeat (first | rfl | omega | split)⟩
    · refine A_iconst hC d_G_put_20 (by decide) ?_
      refine A_iret hC d_G_put_21 rfl (Nat.le_refl _) (Nat.le_refl _) ?_
      exact ⟨fx_r (by repeat (first | omega | split)), rfl, by repeat (first | rfl | omega | split)⟩
set_option maxHeartbeats 4000000 in
theorem k_G_clear (l : Launch) (n : Nat) (M : Mem) (hn : 117 ≤ n) (hS : SC M) (hR : RC M) (r f : Int) (hk : ∀ t f : Int, hasF M t f → 0 ≤ M 3 (t * 4 + f)) : AF l m_G_clear 5 [.inr 0, .inl r, .inl f] n M (some (.inl (if kIn M r f = -1 then -1 else 0))) (if kIn M r f = -1 then M else up (up M 8 ((r - 1) * 4 + f) (-1)) 9 ((r - 1) * 4 + f) 0) := by
  refine AM_intro (by decide) (Nat.le_of_ble_eq_true rfl) (fun X b0 D hC _ => ?_)
  show AW X b0 D true 0 0 _ n M 0 [some (.inr 0), some (.inl r), some (.inl f)] []
  have hS1 := hS.1
  have hS2 := hS.2.1
  have hR1 := hR.1
  have hR2 := hR.2
  have hS3 := hS.2.2 (M 7 (r - 1))
  refine A_ald0 hC d_G_clear_0 ?_
  refine A_ild1 hC d_G_clear_1 ?_
  refine A_ild2 hC d_G_clear_2 ?_
  refine A_VF1 (as := [.inl r, .inl f]) hC d_G_clear_3 mv_G_kindIn lk_G_87 (by decide) sel_G_kindIn hq_G ly_0 (by omega) (k_G_kindIn l n M hn hS hR r f) rfl rfl (Nat.le_of_ble_eq_true rfl) ⟨Nat.zero_le _, Nat.zero_le _⟩ rfl ?_
  refine A_iconst hC d_G_clear_6 (by decide) ?_
  refine A_icmpne (tgt := 12) hC d_G_clear_7 (by decide) (fun h7 => ?_) (fun h7 => ?_)
  · refine A_ald0 hC d_G_clear_12 ?_
    refine A_getCR (v := 6) hC d_G_clear_13 fF_G_19 ⟨by decide, rfl⟩ ly_0 (by omega) ⟨rfl, by decide⟩ cv_0_1 ?_
    refine A_ild1 hC d_G_clear_16 ?_
    refine A_ild2 hC d_G_clear_17 ?_
    have hkk := kIn_in (M := M) (r := r) (f := f) (by omega)
    refine A_VF0 (as := [.inl r, .inl f]) hC d_G_clear_18 mv_Ro_emptyField lk_G_104 (by decide) sel_Ro_emptyField hq_Ro ly_6 (by omega) (k_Ro_emptyField l n M hn r f (by omega) (by omega)) rfl rfl (Nat.le_of_ble_eq_true rfl) ⟨Nat.zero_le _, Nat.zero_le _⟩ rfl ?_
    refine A_iconst hC d_G_clear_21 (by decide) ?_
    refine A_iret hC d_G_clear_22 rfl (Nat.le_refl _) (Nat.le_refl _) ?_
    exact ⟨fx_r (by repeat (first | omega | split)), rfl, by repeat (first | rfl | omega | split)⟩
  · refine A_iconst hC d_G_clear_10 (by decide) ?_
    refine A_iret hC d_G_clear_11 rfl (Nat.le_refl _) (Nat.le_refl _) ?_
    exact ⟨fx_r (by repeat (first | omega | split)), rfl, by repeat (first | rfl | omega | split)⟩
set_option maxHeartbeats 4000000 in
theorem k_G_set (l : Launch) (n : Nat) (M : Mem) (hn : 117 ≤ n) (i v : Int) : AF l m_G_set 2 [.inr 0, .inl i, .inl v] n M (some (.inl (if ¬ (0 ≤ i ∧ i ≤ 3) ∨ ¬ (0 ≤ v ∧ v ≤ 1) then -1 else 0))) (if ¬ (0 ≤ i ∧ i ≤ 3) ∨ ¬ (0 ≤ v ∧ v ≤ 1) then M else up M 16 i v) := by
  refine AM_intro (by decide) (Nat.le_of_ble_eq_true rfl) (fun X b0 D hC _ => ?_)
  show AW X b0 D true 0 0 _ n M 0 [some (.inr 0), some (.inl i), some (.inl v)] []
  refine A_ild1 hC d_G_set_0 ?_
  refine A_iconst hC d_G_set_1 (by decide) ?_
  refine A_iconst hC d_G_set_2 (by decide) ?_
  refine A_SF1 (as := [.inl i, .inl 0, .inl 3]) hC d_G_set_3 mv_G_isWithin lk_G_72 (by decide) (k_G_isWithin l n M hn i 0 3) rfl rfl (Nat.le_of_ble_eq_true rfl) ⟨Nat.zero_le _, Nat.zero_le _⟩ rfl ?_
  refine A_ifeq (tgt := 18) hC d_G_set_6 (by decide) (fun h6 => ?_) (fun h6 => ?_)
  · refine A_iconst hC d_G_set_18 (by decide) ?_
    refine A_iret hC d_G_set_19 rfl (Nat.le_refl _) (Nat.le_refl _) ?_
    exact ⟨fx_r (by repeat (first | omega | split)), rfl, by repeat (first | rfl | omega | split)⟩
  · refine A_ild2 hC d_G_set_9 ?_
    refine A_iconst hC d_G_set_10 (by decide) ?_
    refine A_iconst hC d_G_set_11 (by decide) ?_
    refine A_SF1 (as := [.inl v, .inl 0, .inl 1]) hC d_G_set_12 mv_G_isWithin lk_G_72 (by decide) (k_G_isWithin l n M hn v 0 1) rfl rfl (Nat.le_of_ble_eq_true rfl) ⟨Nat.zero_le _, Nat.zero_le _⟩ rfl ?_
    refine A_ifne (tgt := 20) hC d_G_set_15 (by decide) (fun h15 => ?_) (fun h15 => ?_)
    · refine A_ald0 hC d_G_set_20 ?_
      refine A_getCR (v := 16) hC d_G_set_21 fF_G_30 ⟨by decide, rfl⟩ ly_0 (by omega) ⟨rfl, by decide⟩ cv_0_3 ?_
      refine A_ild1 hC d_G_set_24 ?_
      refine A_ild2 hC d_G_set_25 ?_
      refine A_iast hC d_G_set_26 ly_16 (by omega) (by omega) (fun _ => kk_i _) ?_
      refine A_iconst hC d_G_set_27 (by decide) ?_
      refine A_iret hC d_G_set_28 rfl (Nat.le_refl _) (Nat.le_refl _) ?_
      exact ⟨fx_r (by repeat (first | omega | split)), rfl, by repeat (first | rfl | omega | split)⟩
    · refine A_iconst hC d_G_set_18 (by decide) ?_
      refine A_iret hC d_G_set_19 rfl (Nat.le_refl _) (Nat.le_refl _) ?_
      exact ⟨fx_r (by repeat (first | omega | split)), rfl, by repeat (first | rfl | omega | split)⟩
def TX (M : Mem) : Prop := ∀ t : Int, 0 ≤ M 12 t ∧ M 12 t ≤ 16
set_option maxHeartbeats 4000000 in
theorem k_G_token (l : Launch) (n : Nat) (M : Mem) (hn : 117 ≤ n) (hT : TX M) (t o a b : Int) : AF l m_G_token 3 [.inr 0, .inl t, .inl o, .inl a, .inl b] n M (some (.inl (if ¬ (0 ≤ t ∧ t ≤ 3) ∨ ¬ tokP o a b then -1 else if 16 ≤ M 12 t then -2 else M 12 t + 1))) (if ¬ (0 ≤ t ∧ t ≤ 3) ∨ ¬ tokP o a b then M else if 16 ≤ M 12 t then M else up (up (up (up M 13 (t * 16 + M 12 t) o) 14 (t * 16 + M 12 t) a) 15 (t * 16 + M 12 t) b) 12 t (M 12 t + 1)) := by
  refine AM_intro (by decide) (Nat.le_of_ble_eq_true rfl) (fun X b0 D hC _ => ?_)
  show AW X b0 D true 0 0 _ n M 0 [some (.inr 0), some (.inl t), some (.inl o), some (.inl a), some (.inl b)] []
  have hT1 := hT t
  refine A_ild1 hC d_G_token_0 ?_
  refine A_iconst hC d_G_token_1 (by decide) ?_
  refine A_iconst hC d_G_token_2 (by decide) ?_
  refine A_SF1 (as := [.inl t, .inl 0, .inl 3]) hC d_G_token_3 mv_G_isWithin lk_G_72 (by decide) (k_G_isWithin l n M hn t 0 3) rfl rfl (Nat.le_of_ble_eq_true rfl) ⟨Nat.zero_le _, Nat.zero_le _⟩ rfl ?_
  refine A_ifeq (tgt := 19) hC d_G_token_6 (by decide) (fun h6 => ?_) (fun h6 => ?_)
  · refine A_iconst hC d_G_token_19 (by decide) ?_
    refine A_iret hC d_G_token_20 rfl (Nat.le_refl _) (Nat.le_refl _) ?_
    exact ⟨fx_r (by repeat (first | omega | split)), rfl, by repeat (first | rfl | omega | split)⟩
  · refine A_ild2 hC d_G_token_9 ?_
    refine A_ild3 hC d_G_token_10 ?_
    refine A_ild4 hC d_G_token_11 ?_
    refine A_SF1 (as := [.inl o, .inl a, .inl b]) hC d_G_token_13 mv_G_isTokenInRange lk_G_115 (by decide) (k_G_isTokenInRange l n M hn o a b) rfl rfl (Nat.le_of_ble_eq_true rfl) ⟨Nat.zero_le _, Nat.zero_le _⟩ rfl ?_
    refine A_ifne (tgt := 21) hC d_G_token_16 (by decide) (fun h16 => ?_) (fun h16 => ?_)
    · refine A_ald0 hC d_G_token_21 ?_
      refine A_getCR (v := 11) hC d_G_token_22 fF_G_26 ⟨by decide, rfl⟩ ly_0 (by omega) ⟨rfl, by decide⟩ cv_0_2 ?_
      refine A_getCR (v := 12) hC d_G_token_25 fF_G_118 ⟨by decide, rfl⟩ ly_11 (by omega) ⟨rfl, by decide⟩ cv_11_0 ?_
      refine A_ild1 hC d_G_token_28 ?_
      refine A_iald hC d_G_token_29 ly_12 (by omega) (by omega) ?_
      refine A_bipush hC d_G_token_30 (by decide) (by decide) ?_
      refine A_icmplt (tgt := 38) hC d_G_token_32 (by decide) (fun h32 => ?_) (fun h32 => ?_)
      · refine A_ald0 hC d_G_token_38 ?_
        refine A_getCR (v := 11) hC d_G_token_39 fF_G_26 ⟨by decide, rfl⟩ ly_0 (by omega) ⟨rfl, by decide⟩ cv_0_2 ?_
        refine A_ild1 hC d_G_token_42 ?_
        refine A_ild2 hC d_G_token_43 ?_
        refine A_ild3 hC d_G_token_44 ?_
        refine A_ild4 hC d_G_token_45 ?_
        refine A_VF1 (as := [.inl t, .inl o, .inl a, .inl b]) hC d_G_token_47 mv_Te_addToken lk_G_121 (by decide) sel_Te_addToken hq_Te ly_11 (by omega) (k_Te_addToken l n M hn t o a b (by omega) (by omega)) rfl rfl (Nat.le_of_ble_eq_true rfl) ⟨Nat.zero_le _, Nat.zero_le _⟩ rfl ?_
        refine A_iret hC d_G_token_50 rfl (Nat.le_refl _) (Nat.le_refl _) ?_
        exact ⟨fx_r (by repeat (first | omega | split)), rfl, by repeat (first | rfl | omega | split)⟩
      · refine A_bipush hC d_G_token_35 (by decide) (by decide) ?_
        refine A_iret hC d_G_token_37 rfl (Nat.le_refl _) (Nat.le_refl _) ?_
        exact ⟨fx_r (by repeat (first | omega | split)), rfl, by repeat (first | rfl | omega | split)⟩
    · refine A_iconst hC d_G_token_19 (by decide) ?_
      refine A_iret hC d_G_token_20 rfl (Nat.le_refl _) (Nat.le_refl _) ?_
      exact ⟨fx_r (by repeat (first | omega | split)), rfl, by repeat (first | rfl | omega | split)⟩
set_option maxHeartbeats 4000000 in
theorem k_G_wipe (l : Launch) (n : Nat) (M : Mem) (hn : 117 ≤ n) (t : Int) : AF l m_G_wipe 2 [.inr 0, .inl t] n M (some (.inl (if ¬ (0 ≤ t ∧ t ≤ 3) then -1 else M 12 t))) (if ¬ (0 ≤ t ∧ t ≤ 3) then M else up M 12 t 0) := by
  refine AM_intro (by decide) (Nat.le_of_ble_eq_true rfl) (fun X b0 D hC _ => ?_)
  show AW X b0 D true 0 0 _ n M 0 [some (.inr 0), some (.inl t), none] []
  refine A_ild1 hC d_G_wipe_0 ?_
  refine A_iconst hC d_G_wipe_1 (by decide) ?_
  refine A_iconst hC d_G_wipe_2 (by decide) ?_
  refine A_SF1 (as := [.inl t, .inl 0, .inl 3]) hC d_G_wipe_3 mv_G_isWithin lk_G_72 (by decide) (k_G_isWithin l n M hn t 0 3) rfl rfl (Nat.le_of_ble_eq_true rfl) ⟨Nat.zero_le _, Nat.zero_le _⟩ rfl ?_
  refine A_ifne (tgt := 11) hC d_G_wipe_6 (by decide) (fun h6 => ?_) (fun h6 => ?_)
  · refine A_ald0 hC d_G_wipe_11 ?_
    refine A_getCR (v := 11) hC d_G_wipe_12 fF_G_26 ⟨by decide, rfl⟩ ly_0 (by omega) ⟨rfl, by decide⟩ cv_0_2 ?_
    refine A_getCR (v := 12) hC d_G_wipe_15 fF_G_118 ⟨by decide, rfl⟩ ly_11 (by omega) ⟨rfl, by decide⟩ cv_11_0 ?_
    refine A_ild1 hC d_G_wipe_18 ?_
    refine A_iald hC d_G_wipe_19 ly_12 (by omega) (by omega) ?_
    refine A_ist2 hC d_G_wipe_20 ?_
    refine A_ald0 hC d_G_wipe_21 ?_
    refine A_getCR (v := 11) hC d_G_wipe_22 fF_G_26 ⟨by decide, rfl⟩ ly_0 (by omega) ⟨rfl, by decide⟩ cv_0_2 ?_
    refine A_getCR (v := 12) hC d_G_wipe_25 fF_G_118 ⟨by decide, rfl⟩ ly_11 (by omega) ⟨rfl, by decide⟩ cv_11_0 ?_
    refine A_ild1 hC d_G_wipe_28 ?_
    refine A_iconst hC d_G_wipe_29 (by decide) ?_
    refine A_iast hC d_G_wipe_30 ly_12 (by omega) (by omega) (fun _ => kk_i _) ?_
    refine A_ild2 hC d_G_wipe_31 ?_
    refine A_iret hC d_G_wipe_32 rfl (Nat.le_refl _) (Nat.le_refl _) ?_
    exact ⟨fx_r (by repeat (first | omega | split)), rfl, by repeat (first | rfl | omega | split)⟩
  · refine A_iconst hC d_G_wipe_9 (by decide) ?_
    refine A_iret hC d_G_wipe_10 rfl (Nat.le_refl _) (Nat.le_refl _) ?_
    exact ⟨fx_r (by repeat (first | omega | split)), rfl, by repeat (first | rfl | omega | split)⟩
set_option maxHeartbeats 4000000 in
theorem k_G_place (l : Launch) (n : Nat) (M : Mem) (hn : 117 ≤ n) : AF l m_G_place 1 [.inr 0] n M (some (.inl (M 17 5))) M := by
  refine AM_intro (by decide) (Nat.le_of_ble_eq_true rfl) (fun X b0 D hC _ => ?_)
  show AW X b0 D true 0 0 _ n M 0 [some (.inr 0)] []
  refine A_ald0 hC d_G_place_0 ?_
  refine A_getCR (v := 17) hC d_G_place_1 fF_G_39 ⟨by decide, rfl⟩ ly_0 (by omega) ⟨rfl, by decide⟩ cv_0_4 ?_
  refine A_getI (kI := 5) hC d_G_place_4 fF_G_128 ⟨by decide, rfl⟩ rfl ly_17 (by omega) ?_
  refine A_iconst hC d_G_place_7 (by decide) ?_
  refine A_icmpne (tgt := 15) hC d_G_place_8 (by decide) (fun h8 => ?_) (fun h8 => ?_)
  · refine A_ald0 hC d_G_place_15 ?_
    refine A_getCR (v := 17) hC d_G_place_16 fF_G_39 ⟨by decide, rfl⟩ ly_0 (by omega) ⟨rfl, by decide⟩ cv_0_4 ?_
    refine A_getI (kI := 5) hC d_G_place_19 fF_G_128 ⟨by decide, rfl⟩ rfl ly_17 (by omega) ?_
    refine A_iret hC d_G_place_22 rfl (Nat.le_refl _) (Nat.le_refl _) ?_
    exact ⟨fx_r (by repeat (first | omega | split)), rfl, by repeat (first | rfl | omega | split)⟩
  · refine A_iconst hC d_G_place_11 (by decide) ?_
    refine A_goto (tgt := 22) hC d_G_place_12 (by decide) ?_
    refine A_iret hC d_G_place_22 rfl (Nat.le_refl _) (Nat.le_refl _) ?_
    exact ⟨fx_r (by repeat (first | omega | split)), rfl, by repeat (first | rfl | omega | split)⟩
set_option maxHeartbeats 4000000 in
theorem k_G_code (l : Launch) (n : Nat) (M : Mem) (hn : 117 ≤ n) (hc : 0 ≤ M 81 4 ∧ M 81 4 ≤ 120) (i : Int) : AF l m_G_code 2 [.inr 0, .inl i] n M (some (.inl (if 0 ≤ i ∧ i ≤ M 81 4 - 1 then M 87 i else -1))) M := by
  refine AM_intro (by decide) (Nat.le_of_ble_eq_true rfl) (fun X b0 D hC _ => ?_)
  show AW X b0 D true 0 0 _ n M 0 [some (.inr 0), some (.inl i)] []
  refine A_ild1 hC d_G_code_0 ?_
  refine A_iconst hC d_G_code_1 (by decide) ?_
  refine A_ald0 hC d_G_code_2 ?_
  refine A_getCR (v := 81) hC d_G_code_3 fF_G_53 ⟨by decide, rfl⟩ ly_0 (by omega) ⟨rfl, by decide⟩ cv_0_5 ?_
  refine A_getI (kI := 4) hC d_G_code_6 fF_G_142 ⟨by decide, rfl⟩ rfl ly_81 (by omega) ?_
  refine A_iconst hC d_G_code_9 (by decide) ?_
  refine A_isub hC d_G_code_10 (by omega) ?_
  refine A_SF1 (as := [.inl i, .inl 0, .inl ((M 81 4) - 1)]) hC d_G_code_11 mv_G_isWithin lk_G_72 (by decide) (k_G_isWithin l n M hn i 0 ((M 81 4) - 1)) rfl rfl (Nat.le_of_ble_eq_true rfl) ⟨Nat.zero_le _, Nat.zero_le _⟩ rfl ?_
  refine A_ifeq (tgt := 29) hC d_G_code_14 (by decide) (fun h14 => ?_) (fun h14 => ?_)
  · refine A_iconst hC d_G_code_29 (by decide) ?_
    refine A_iret hC d_G_code_30 rfl (Nat.le_refl _) (Nat.le_refl _) ?_
    exact ⟨fx_r (by repeat (first | omega | split)), rfl, by repeat (first | rfl | omega | split)⟩
  · refine A_ald0 hC d_G_code_17 ?_
    refine A_getCR (v := 81) hC d_G_code_18 fF_G_53 ⟨by decide, rfl⟩ ly_0 (by omega) ⟨rfl, by decide⟩ cv_0_5 ?_
    refine A_getCR (v := 87) hC d_G_code_21 fF_G_145 ⟨by decide, rfl⟩ ly_81 (by omega) ⟨rfl, by decide⟩ cv_81_3 ?_
    refine A_ild1 hC d_G_code_24 ?_
    refine A_iald hC d_G_code_25 ly_87 (by omega) (by omega) ?_
    refine A_goto (tgt := 30) hC d_G_code_26 (by decide) ?_
    refine A_iret hC d_G_code_30 rfl (Nat.le_refl _) (Nat.le_refl _) ?_
    exact ⟨fx_r (by repeat (first | omega | split)), rfl, by repeat (first | rfl | omega | split)⟩
def PC (M : Mem) : Prop := 0 ≤ M 83 4 ∧ M 83 4 ≤ 60 ∧ ∀ k : Int, 0 ≤ k → k < M 83 4 → 0 ≤ M 85 k ∧ M 85 k ≤ 26
set_option maxHeartbeats 4000000 in
theorem k_Pa_partOf (l : Launch) (n : Nat) (M : Mem) (hn : 117 ≤ n) (hP : PC M) (k i : Int) : AF l m_Pa_partOf 2 [.inr 83, .inl k, .inl i] n M (some (.inl (if (0 ≤ k ∧ k ≤ M 83 4 - 1) ∧ 0 ≤ i ∧ i ≤ M 85 k - 1 then M 86 (k * 26 + i) else -1))) M := by
  refine AM_intro (by decide) (Nat.le_of_ble_eq_true rfl) (fun X b0 D hC _ => ?_)
  show AW X b0 D true 0 0 _ n M 0 [some (.inr 83), some (.inl k), some (.inl i)] []
  have hP1 := hP.1
  have hP2 := hP.2.1
  have hP3 := hP.2.2 k
  refine A_ild1 hC d_Pa_partOf_0 ?_
  refine A_iconst hC d_Pa_partOf_1 (by decide) ?_
  refine A_ald0 hC d_Pa_partOf_2 ?_
  refine A_getI (kI := 4) hC d_Pa_partOf_3 fF_Pa_25 ⟨by decide, rfl⟩ rfl ly_83 (by omega) ?_
  refine A_iconst hC d_Pa_partOf_6 (by decide) ?_
  refine A_isub hC d_Pa_partOf_7 (by omega) ?_
  refine A_SNF1 (as := [.inl k, .inl 0, .inl ((M 83 4) - 1)]) hC d_Pa_partOf_8 mv_G_isWithin lk_Pa_40 (by decide) (k_G_isWithin l n M hn k 0 ((M 83 4) - 1)) rfl rfl (Nat.le_of_ble_eq_true rfl) ⟨Nat.zero_le _, Nat.zero_le _⟩ rfl ?_
  refine A_ifeq (tgt := 30) hC d_Pa_partOf_11 (by decide) (fun h11 => ?_) (fun h11 => ?_)
  · refine A_iconst hC d_Pa_partOf_30 (by decide) ?_
    refine A_iret hC d_Pa_partOf_31 rfl (Nat.le_refl _) (Nat.le_refl _) ?_
    exact ⟨fx_r (by repeat (first | omega | split)), rfl, by repeat (first | rfl | omega | split)⟩
  · refine A_ild2 hC d_Pa_partOf_14 ?_
    refine A_iconst hC d_Pa_partOf_15 (by decide) ?_
    refine A_ald0 hC d_Pa_partOf_16 ?_
    refine A_getCR (v := 85) hC d_Pa_partOf_17 fF_Pa_15 ⟨by decide, rfl⟩ ly_83 (by omega) ⟨rfl, by decide⟩ cv_83_1 ?_
    refine A_ild1 hC d_Pa_partOf_20 ?_
    refine A_iald hC d_Pa_partOf_21 ly_85 (by omega) (by omega) ?_
    refine A_iconst hC d_Pa_partOf_22 (by decide) ?_
    refine A_isub hC d_Pa_partOf_23 (by omega) ?_
    refine A_SNF1 (as := [.inl i, .inl 0, .inl ((M 85 k) - 1)]) hC d_Pa_partOf_24 mv_G_isWithin lk_Pa_40 (by decide) (k_G_isWithin l n M hn i 0 ((M 85 k) - 1)) rfl rfl (Nat.le_of_ble_eq_true rfl) ⟨Nat.zero_le _, Nat.zero_le _⟩ rfl ?_
    refine A_ifne (tgt := 32) hC d_Pa_partOf_27 (by decide) (fun h27 => ?_) (fun h27 => ?_)
    · refine A_ald0 hC d_Pa_partOf_32 ?_
      refine A_getCR (v := 86) hC d_Pa_partOf_33 fF_Pa_18 ⟨by decide, rfl⟩ ly_83 (by omega) ⟨rfl, by decide⟩ cv_83_2 ?_
      refine A_ild1 hC d_Pa_partOf_36 ?_
      refine A_bipush hC d_Pa_partOf_37 (by decide) (by decide) ?_
      refine A_imul hC d_Pa_partOf_39 (by omega) ?_
      refine A_ild2 hC d_Pa_partOf_40 ?_
      refine A_iadd hC d_Pa_partOf_41 (by omega) ?_
      refine A_iald hC d_Pa_partOf_42 ly_86 (by omega) (by omega) ?_
      refine A_iret hC d_Pa_partOf_43 rfl (Nat.le_refl _) (Nat.le_refl _) ?_
      exact ⟨fx_r (by repeat (first | omega | split)), rfl, by repeat (first | rfl | omega | split)⟩
    · refine A_iconst hC d_Pa_partOf_30 (by decide) ?_
      refine A_iret hC d_Pa_partOf_31 rfl (Nat.le_refl _) (Nat.le_refl _) ?_
      exact ⟨fx_r (by repeat (first | omega | split)), rfl, by repeat (first | rfl | omega | split)⟩
set_option maxHeartbeats 4000000 in
theorem k_G_missing (l : Launch) (n : Nat) (M : Mem) (hn : 117 ≤ n) (hP : PC M) (k i : Int) : AF l m_G_missing 3 [.inr 0, .inl k, .inl i] n M (some (.inl (if (0 ≤ k ∧ k ≤ M 83 4 - 1) ∧ 0 ≤ i ∧ i ≤ M 85 k - 1 then M 86 (k * 26 + i) else -1))) M := by
  refine AM_intro (by decide) (Nat.le_of_ble_eq_true rfl) (fun X b0 D hC _ => ?_)
  show AW X b0 D true 0 0 _ n M 0 [some (.inr 0), some (.inl k), some (.inl i)] []
  refine A_ald0 hC d_G_missing_0 ?_
  refine A_getCR (v := 81) hC d_G_missing_1 fF_G_53 ⟨by decide, rfl⟩ ly_0 (by omega) ⟨rfl, by decide⟩ cv_0_5 ?_
  refine A_getCR (v := 83) hC d_G_missing_4 fF_G_148 ⟨by decide, rfl⟩ ly_81 (by omega) ⟨rfl, by decide⟩ cv_81_2 ?_
  refine A_ild1 hC d_G_missing_7 ?_
  refine A_ild2 hC d_G_missing_8 ?_
  refine A_VF1 (as := [.inl k, .inl i]) hC d_G_missing_9 mv_Pa_partOf lk_G_152 (by decide) sel_Pa_partOf hq_Pa ly_83 (by omega) (k_Pa_partOf l n M hn hP k i) rfl rfl (Nat.le_of_ble_eq_true rfl) ⟨Nat.zero_le _, Nat.zero_le _⟩ rfl ?_
  refine A_iret hC d_G_missing_12 rfl (Nat.le_refl _) (Nat.le_refl _) ?_
  exact ⟨rfl, rfl, rfl⟩
set_option maxHeartbeats 4000000 in
theorem k_G_count (l : Launch) (n : Nat) (M : Mem) (hn : 117 ≤ n) (i : Int) : AF l m_G_count 2 [.inr 0, .inl i] n M (some (.inl (if i = 0 then M 1 4 else if i = 1 then M 6 4 else if i = 2 then M 81 4 else if i = 3 then M 83 4 else if 4 ≤ i ∧ i ≤ 7 then M 12 (i - 4) else -1))) M := by
  refine AM_intro (by decide) (Nat.le_of_ble_eq_true rfl) (fun X b0 D hC _ => ?_)
  show AW X b0 D true 0 0 _ n M 0 [some (.inr 0), some (.inl i)] []
  refine A_ild1 hC d_G_count_0 ?_
  refine A_tsw (td := 67) [32, 40, 48, 56] hC d_G_count_1 (by decide) (by decide) (by decide) ⟨fun h1 => ?_, fun h1 => ?_, fun h1 => ?_, fun h1 => ?_, trivial⟩ (fun h1 => ?_)
  · refine A_ald0 hC d_G_count_32 ?_
    refine A_getCR (v := 1) hC d_G_count_33 fF_G_12 ⟨by decide, rfl⟩ ly_0 (by omega) ⟨rfl, by decide⟩ cv_0_0 ?_
    refine A_getI (kI := 4) hC d_G_count_36 fF_G_57 ⟨by decide, rfl⟩ rfl ly_1 (by omega) ?_
    refine A_iret hC d_G_count_39 rfl (Nat.le_refl _) (Nat.le_refl _) ?_
    exact ⟨fx_r (by repeat (first | omega | split)), rfl, by repeat (first | rfl | omega | split)⟩
  · refine A_ald0 hC d_G_count_40 ?_
    refine A_getCR (v := 6) hC d_G_count_41 fF_G_19 ⟨by decide, rfl⟩ ly_0 (by omega) ⟨rfl, by decide⟩ cv_0_1 ?_
    refine A_getI (kI := 4) hC d_G_count_44 fF_G_61 ⟨by decide, rfl⟩ rfl ly_6 (by omega) ?_
    refine A_iret hC d_G_count_47 rfl (Nat.le_refl _) (Nat.le_refl _) ?_
    exact ⟨fx_r (by repeat (first | omega | split)), rfl, by repeat (first | rfl | omega | split)⟩
  · refine A_ald0 hC d_G_count_48 ?_
    refine A_getCR (v := 81) hC d_G_count_49 fF_G_53 ⟨by decide, rfl⟩ ly_0 (by omega) ⟨rfl, by decide⟩ cv_0_5 ?_
    refine A_getI (kI := 4) hC d_G_count_52 fF_G_142 ⟨by decide, rfl⟩ rfl ly_81 (by omega) ?_
    refine A_iret hC d_G_count_55 rfl (Nat.le_refl _) (Nat.le_refl _) ?_
    exact ⟨fx_r (by repeat (first | omega | split)), rfl, by repeat (first | rfl | omega | split)⟩
  · refine A_ald0 hC d_G_count_56 ?_
    refine A_getCR (v := 81) hC d_G_count_57 fF_G_53 ⟨by decide, rfl⟩ ly_0 (by omega) ⟨rfl, by decide⟩ cv_0_5 ?_
    refine A_getCR (v := 83) hC d_G_count_60 fF_G_148 ⟨by decide, rfl⟩ ly_81 (by omega) ⟨rfl, by decide⟩ cv_81_2 ?_
    refine A_getI (kI := 4) hC d_G_count_63 fF_G_157 ⟨by decide, rfl⟩ rfl ly_83 (by omega) ?_
    refine A_iret hC d_G_count_66 rfl (Nat.le_refl _) (Nat.le_refl _) ?_
    exact ⟨fx_r (by repeat (first | omega | split)), rfl, by repeat (first | rfl | omega | split)⟩
  · refine A_ild1 hC d_G_count_67 ?_
    refine A_iconst hC d_G_count_68 (by decide) ?_
    refine A_bipush hC d_G_count_69 (by decide) (by decide) ?_
    refine A_SF1 (as := [.inl i, .inl 4, .inl 7]) hC d_G_count_71 mv_G_isWithin lk_G_72 (by decide) (k_G_isWithin l n M hn i 4 7) rfl rfl (Nat.le_of_ble_eq_true rfl) ⟨Nat.zero_le _, Nat.zero_le _⟩ rfl ?_
    refine A_ifeq (tgt := 91) hC d_G_count_74 (by decide) (fun h74 => ?_) (fun h74 => ?_)
    · refine A_iconst hC d_G_count_91 (by decide) ?_
      refine A_iret hC d_G_count_92 rfl (Nat.le_refl _) (Nat.le_refl _) ?_
      exact ⟨fx_r (by repeat (first | omega | split)), rfl, by repeat (first | rfl | omega | split)⟩
    · refine A_ald0 hC d_G_count_77 ?_
      refine A_getCR (v := 11) hC d_G_count_78 fF_G_26 ⟨by decide, rfl⟩ ly_0 (by omega) ⟨rfl, by decide⟩ cv_0_2 ?_
      refine A_getCR (v := 12) hC d_G_count_81 fF_G_118 ⟨by decide, rfl⟩ ly_11 (by omega) ⟨rfl, by decide⟩ cv_11_0 ?_
      refine A_ild1 hC d_G_count_84 ?_
      refine A_iconst hC d_G_count_85 (by decide) ?_
      refine A_isub hC d_G_count_86 (by omega) ?_
      refine A_iald hC d_G_count_87 ly_12 (by omega) (by omega) ?_
      refine A_goto (tgt := 92) hC d_G_count_88 (by decide) ?_
      refine A_iret hC d_G_count_92 rfl (Nat.le_refl _) (Nat.le_refl _) ?_
      exact ⟨fx_r (by repeat (first | omega | split)), rfl, by repeat (first | rfl | omega | split)⟩
set_option maxHeartbeats 4000000 in
theorem k_Pa_noteHere (l : Launch) (n : Nat) (M : Mem) (hn : 117 ≤ n) (hP : 0 ≤ M 83 4) (hh : 0 ≤ M 83 3 ∧ M 83 3 ≤ 26) : AF l m_Pa_noteHere 1 [.inr 83] n M none (ntH M) := by
  refine AM_intro (by decide) (Nat.le_of_ble_eq_true rfl) (fun X b0 D hC _ => ?_)
  show AW X b0 D true 0 0 _ n M 0 [some (.inr 83)] []
  refine A_ald0 hC d_Pa_noteHere_0 ?_
  refine A_getI (kI := 4) hC d_Pa_noteHere_1 fF_Pa_25 ⟨by decide, rfl⟩ rfl ly_83 (by omega) ?_
  refine A_bipush hC d_Pa_noteHere_4 (by decide) (by decide) ?_
  refine A_icmpge (tgt := 55) hC d_Pa_noteHere_6 (by decide) (fun h6 => ?_) (fun h6 => ?_)
  · refine A_vret hC d_Pa_noteHere_55 rfl (Nat.le_refl _) (Nat.le_refl _) ?_
    exact ⟨rfl, rfl, by unfold ntH; first | rw [if_pos (by omega)] | rw [if_neg (by omega)]⟩
  · refine A_ald0 hC d_Pa_noteHere_9 ?_
    refine A_getCR (v := 84) hC d_Pa_noteHere_10 fF_Pa_9 ⟨by decide, rfl⟩ ly_83 (by omega) ⟨rfl, by decide⟩ cv_83_0 ?_
    refine A_iconst hC d_Pa_noteHere_13 (by decide) ?_
    refine A_ald0 hC d_Pa_noteHere_14 ?_
    refine A_getCR (v := 86) hC d_Pa_noteHere_15 fF_Pa_18 ⟨by decide, rfl⟩ ly_83 (by omega) ⟨rfl, by decide⟩ cv_83_2 ?_
    refine A_ald0 hC d_Pa_noteHere_18 ?_
    refine A_getI (kI := 4) hC d_Pa_noteHere_19 fF_Pa_25 ⟨by decide, rfl⟩ rfl ly_83 (by omega) ?_
    refine A_bipush hC d_Pa_noteHere_22 (by decide) (by decide) ?_
    refine A_imul hC d_Pa_noteHere_24 (by omega) ?_
    refine A_ald0 hC d_Pa_noteHere_25 ?_
    refine A_getI (kI := 3) hC d_Pa_noteHere_26 fF_Pa_21 ⟨by decide, rfl⟩ rfl ly_83 (by omega) ?_
    refine A_copy hC d_Pa_noteHere_29 lk_Pa_34 zn_arraycopy zs_arraycopy zi_System (by decide) (Nat.le_of_ble_eq_true rfl) rfl ly_84 ly_86 (by omega) (by omega) (by omega) (by omega) (fun _ => kk_i) ?_
    refine A_ald0 hC d_Pa_noteHere_32 ?_
    refine A_getCR (v := 85) hC d_Pa_noteHere_33 fF_Pa_15 ⟨by decide, rfl⟩ ly_83 (by omega) ⟨rfl, by decide⟩ cv_83_1 ?_
    refine A_ald0 hC d_Pa_noteHere_36 ?_
    refine A_getIE (x := M 83 4) (kI := 4) hC d_Pa_noteHere_37 fF_Pa_25 ⟨by decide, rfl⟩ rfl ly_83 (by omega) (by rw [cpy_nc (c2 := 86) (c := 83) (by decide)]) ?_
    refine A_ald0 hC d_Pa_noteHere_40 ?_
    refine A_getIE (x := M 83 3) (kI := 3) hC d_Pa_noteHere_41 fF_Pa_21 ⟨by decide, rfl⟩ rfl ly_83 (by omega) (by rw [cpy_nc (c2 := 86) (c := 83) (by decide)]) ?_
    refine A_iast hC d_Pa_noteHere_44 ly_85 (by omega) (by omega) (fun _ => kk_i _) ?_
    refine A_ald0 hC d_Pa_noteHere_45 ?_
    refine A_dup hC d_Pa_noteHere_46 ?_
    refine A_getIE (x := M 83 4) (kI := 4) hC d_Pa_noteHere_47 fF_Pa_25 ⟨by decide, rfl⟩ rfl ly_83 (by omega) (by rw [up_nc (c := 85) (c' := 83) (by decide), cpy_nc (c2 := 86) (c := 83) (by decide)]) ?_
    refine A_iconst hC d_Pa_noteHere_50 (by decide) ?_
    refine A_iadd hC d_Pa_noteHere_51 (by omega) ?_
    refine A_putI (kI := 4) hC d_Pa_noteHere_52 fP_Pa_25 ⟨by decide, rfl⟩ rfl ly_83 (by omega) (fun _ => by decide) ?_
    refine A_vret hC d_Pa_noteHere_55 rfl (Nat.le_refl _) (Nat.le_refl _) ?_
    exact ⟨rfl, rfl, by unfold ntH; first | rw [if_pos (by omega)] | rw [if_neg (by omega)]⟩
