abbrev lkB (M : Mem) (r f x : Int) : Prop := (¬ kIn M r f = 1 ∧ ¬ kIn M r f = 2) ∨ ¬ (1 ≤ x ∧ x ≤ M 6 4) ∨ (¬ M 4 (M 7 (r - 1) * 4 + f) = 5 ∧ ¬ M 4 (M 7 (r - 1) * 4 + f) = M 7 (x - 1))
set_option maxHeartbeats 4000000 in
theorem k_G_link (l : Launch) (n : Nat) (M : Mem) (hn : 117 ≤ n) (hS : SC M) (hR : RC M) (r f x : Int) (hl : ∀ i : Int, 0 ≤ M 9 i ∧ M 9 i ≤ 4) : AF l m_G_link 5 [.inr 0, .inl r, .inl f, .inl x] n M (some (.inl (if lkB M r f x then -1 else if kIn M r f = 1 then 1 else if 4 ≤ M 9 ((r - 1) * 4 + f) then -2 else M 9 ((r - 1) * 4 + f) + 1))) (if lkB M r f x then M else if kIn M r f = 1 then up (up (up (up M 8 ((r - 1) * 4 + f) (-1)) 9 ((r - 1) * 4 + f) 0) 10 (((r - 1) * 4 + f) * 4 + (up (up M 8 ((r - 1) * 4 + f) (-1)) 9 ((r - 1) * 4 + f) 0) 9 ((r - 1) * 4 + f)) x) 9 ((r - 1) * 4 + f) ((up (up M 8 ((r - 1) * 4 + f) (-1)) 9 ((r - 1) * 4 + f) 0) 9 ((r - 1) * 4 + f) + 1) else if 4 ≤ M 9 ((r - 1) * 4 + f) then M else up (up M 10 (((r - 1) * 4 + f) * 4 + M 9 ((r - 1) * 4 + f)) x) 9 ((r - 1) * 4 + f) (M 9 ((r - 1) * 4 + f) + 1)) := by
  refine AM_intro (by decide) (Nat.le_of_ble_eq_true rfl) (fun X b0 D hC _ => ?_)
  show AW X b0 D true 0 0 _ n M 0 [some (.inr 0), some (.inl r), some (.inl f), some (.inl x), none, none] []
  have hS1 := hS.1
  have hS2 := hS.2.1
  have hR1 := hR.1
  have hR2 := hR.2
  have hS3 := hS.2.2 (M 7 (r - 1))
  have hl1 := hl ((r - 1) * 4 + f)
  refine A_ald0 hC d_G_link_0 ?_
  refine A_ild1 hC d_G_link_1 ?_
  refine A_ild2 hC d_G_link_2 ?_
  refine A_VF1 (as := [.inl r, .inl f]) hC d_G_link_3 mv_G_kindIn lk_G_87 (by decide) sel_G_kindIn hq_G ly_0 (by omega) (k_G_kindIn l n M hn hS hR r f) rfl rfl (Nat.le_of_ble_eq_true rfl) ⟨Nat.zero_le _, Nat.zero_le _⟩ rfl ?_
  refine A_ist4 hC d_G_link_6 ?_
  refine A_ild4 hC d_G_link_8 ?_
  refine A_iconst hC d_G_link_10 (by decide) ?_
  refine A_icmpeq (tgt := 20) hC d_G_link_11 (by decide) (fun h11 => ?_) (fun h11 => ?_)
  · refine A_ald0 hC d_G_link_20 ?_
    refine A_getCR (v := 6) hC d_G_link_21 fF_G_19 ⟨by decide, rfl⟩ ly_0 (by omega) ⟨rfl, by decide⟩ cv_0_1 ?_
    refine A_ild3 hC d_G_link_24 ?_
    refine A_VF1 (as := [.inl x]) hC d_G_link_25 mv_Ro_hasRow lk_G_95 (by decide) sel_Ro_hasRow hq_Ro ly_6 (by omega) (k_Ro_hasRow l n M hn x) rfl rfl (Nat.le_of_ble_eq_true rfl) ⟨Nat.zero_le _, Nat.zero_le _⟩ rfl ?_
    refine A_ifne (tgt := 33) hC d_G_link_28 (by decide) (fun h28 => ?_) (fun h28 => ?_)
    · have hkk := kIn_in (M := M) (r := r) (f := f) (by omega)
      refine A_ald0 hC d_G_link_33 ?_
      refine A_getCR (v := 1) hC d_G_link_34 fF_G_12 ⟨by decide, rfl⟩ ly_0 (by omega) ⟨rfl, by decide⟩ cv_0_0 ?_
      refine A_ald0 hC d_G_link_37 ?_
      refine A_getCR (v := 6) hC d_G_link_38 fF_G_19 ⟨by decide, rfl⟩ ly_0 (by omega) ⟨rfl, by decide⟩ cv_0_1 ?_
      refine A_ild1 hC d_G_link_41 ?_
      refine A_VF1 (as := [.inl r]) hC d_G_link_42 mv_Ro_typeOf lk_G_98 (by decide) sel_Ro_typeOf hq_Ro ly_6 (by omega) (k_Ro_typeOf l n M hn r (by omega)) rfl rfl (Nat.le_of_ble_eq_true rfl) ⟨Nat.zero_le _, Nat.zero_le _⟩ rfl ?_
      refine A_ild2 hC d_G_link_45 ?_
      refine A_VF1 (as := [.inl (M 7 (r - 1)), .inl f]) hC d_G_link_46 mv_Sc_targetOf lk_G_101 (by decide) sel_Sc_targetOf hq_Sc ly_1 (by omega) (k_Sc_targetOf l n M hn hS (M 7 (r - 1)) f) rfl rfl (Nat.le_of_ble_eq_true rfl) ⟨Nat.zero_le _, Nat.zero_le _⟩ rfl ?_
      refine A_ist5 hC d_G_link_49 ?_
      refine A_ild5 hC d_G_link_51 ?_
      refine A_iconst hC d_G_link_53 (by decide) ?_
      refine A_icmpeq (tgt := 72) hC d_G_link_54 (by decide) (fun h54 => ?_) (fun h54 => ?_)
      · refine A_ild4 hC d_G_link_72 ?_
        refine A_iconst hC d_G_link_74 (by decide) ?_
        refine A_icmpne (tgt := 87) hC d_G_link_75 (by decide) (fun h75 => ?_) (fun h75 => ?_)
        · refine A_ald0 hC d_G_link_87 ?_
          refine A_getCR (v := 6) hC d_G_link_88 fF_G_19 ⟨by decide, rfl⟩ ly_0 (by omega) ⟨rfl, by decide⟩ cv_0_1 ?_
          refine A_ild1 hC d_G_link_91 ?_
          refine A_ild2 hC d_G_link_92 ?_
          refine A_VF1 (as := [.inl r, .inl f]) hC d_G_link_93 mv_Ro_linkedCount lk_G_108 (by decide) sel_Ro_linkedCount hq_Ro ly_6 (by omega) (k_Ro_linkedCount l n M hn r f (by omega) (by omega)) rfl rfl (Nat.le_of_ble_eq_true rfl) ⟨Nat.zero_le _, Nat.zero_le _⟩ rfl ?_
          refine A_iconst hC d_G_link_96 (by decide) ?_
          refine A_icmplt (tgt := 103) hC d_G_link_97 (by decide) (fun h97 => ?_) (fun h97 => ?_)
          · refine A_ald0 hC d_G_link_103 ?_
            refine A_getCR (v := 6) hC d_G_link_104 fF_G_19 ⟨by decide, rfl⟩ ly_0 (by omega) ⟨rfl, by decide⟩ cv_0_1 ?_
            refine A_ild1 hC d_G_link_107 ?_
            refine A_ild2 hC d_G_link_108 ?_
            refine A_ild3 hC d_G_link_109 ?_
            refine A_VF1 (as := [.inl r, .inl f, .inl x]) hC d_G_link_110 mv_Ro_addLinked lk_G_111 (by decide) sel_Ro_addLinked hq_Ro ly_6 (by omega) (k_Ro_addLinked l n M hn r f x (by omega) (by omega) (by omega)) rfl rfl (Nat.le_of_ble_eq_true rfl) ⟨Nat.zero_le _, Nat.zero_le _⟩ rfl ?_
            refine A_iret hC d_G_link_113 rfl (Nat.le_refl _) (Nat.le_refl _) ?_
            exact ⟨fx_r (by (try rw [up_eq]); repeat (first | omega | split)), rfl, by repeat (first | rfl | omega | split)⟩
          · refine A_bipush hC d_G_link_100 (by decide) (by decide) ?_
            refine A_iret hC d_G_link_102 rfl (Nat.le_refl _) (Nat.le_refl _) ?_
            exact ⟨fx_r (by (try rw [up_eq]); repeat (first | omega | split)), rfl, by repeat (first | rfl | omega | split)⟩
        · refine A_ald0 hC d_G_link_78 ?_
          refine A_getCR (v := 6) hC d_G_link_79 fF_G_19 ⟨by decide, rfl⟩ ly_0 (by omega) ⟨rfl, by decide⟩ cv_0_1 ?_
          refine A_ild1 hC d_G_link_82 ?_
          refine A_ild2 hC d_G_link_83 ?_
          refine A_VF0 (as := [.inl r, .inl f]) hC d_G_link_84 mv_Ro_emptyField lk_G_104 (by decide) sel_Ro_emptyField hq_Ro ly_6 (by omega) (k_Ro_emptyField l n M hn r f (by omega) (by omega)) rfl rfl (Nat.le_of_ble_eq_true rfl) ⟨Nat.zero_le _, Nat.zero_le _⟩ rfl ?_
          refine A_ald0 hC d_G_link_87 ?_
          refine A_getCR (v := 6) hC d_G_link_88 fF_G_19 ⟨by decide, rfl⟩ ly_0 (by omega) ⟨rfl, by decide⟩ cv_0_1 ?_
          refine A_ild1 hC d_G_link_91 ?_
          refine A_ild2 hC d_G_link_92 ?_
          refine A_VF1 (as := [.inl r, .inl f]) hC d_G_link_93 mv_Ro_linkedCount lk_G_108 (by decide) sel_Ro_linkedCount hq_Ro ly_6 (by omega) (k_Ro_linkedCount l n (up (up M 8 ((r - 1) * 4 + f) (-1)) 9 ((r - 1) * 4 + f) 0) hn r f (by omega) (by omega)) rfl rfl (Nat.le_of_ble_eq_true rfl) ⟨Nat.zero_le _, Nat.zero_le _⟩ rfl ?_
          refine A_eqi (up_eq _ _ _ _) ?_
          refine A_iconst hC d_G_link_96 (by decide) ?_
          refine A_icmplt (tgt := 103) hC d_G_link_97 (by decide) (fun h97 => ?_) (fun h97 => ?_)
          rotate_left
          · exact absurd h97 (by decide)
          refine A_ald0 hC d_G_link_103 ?_
          refine A_getCR (v := 6) hC d_G_link_104 fF_G_19 ⟨by decide, rfl⟩ ly_0 (by omega) ⟨rfl, by decide⟩ cv_0_1 ?_
          refine A_ild1 hC d_G_link_107 ?_
          refine A_ild2 hC d_G_link_108 ?_
          refine A_ild3 hC d_G_link_109 ?_
          refine A_VF1 (as := [.inl r, .inl f, .inl x]) hC d_G_link_110 mv_Ro_addLinked lk_G_111 (by decide) sel_Ro_addLinked hq_Ro ly_6 (by omega) (k_Ro_addLinked l n (up (up M 8 ((r - 1) * 4 + f) (-1)) 9 ((r - 1) * 4 + f) 0) hn r f x (by omega) (by omega) (by rw [up_eq]; omega)) rfl rfl (Nat.le_of_ble_eq_true rfl) ⟨Nat.zero_le _, Nat.zero_le _⟩ rfl ?_
          refine A_iret hC d_G_link_113 rfl (Nat.le_refl _) (Nat.le_refl _) ?_
          exact ⟨fx_r (by (try rw [up_eq]); repeat (first | omega | split)), rfl, by repeat (first | rfl | omega | split)⟩
      · refine A_ild5 hC d_G_link_57 ?_
        refine A_ald0 hC d_G_link_59 ?_
        refine A_getCR (v := 6) hC d_G_link_60 fF_G_19 ⟨by decide, rfl⟩ ly_0 (by omega) ⟨rfl, by decide⟩ cv_0_1 ?_
        refine A_ild3 hC d_G_link_63 ?_
        refine A_VF1 (as := [.inl x]) hC d_G_link_64 mv_Ro_typeOf lk_G_98 (by decide) sel_Ro_typeOf hq_Ro ly_6 (by omega) (k_Ro_typeOf l n M hn x (by omega)) rfl rfl (Nat.le_of_ble_eq_true rfl) ⟨Nat.zero_le _, Nat.zero_le _⟩ rfl ?_
        refine A_icmpeq (tgt := 72) hC d_G_link_67 (by decide) (fun h67 => ?_) (fun h67 => ?_)
        · refine A_ild4 hC d_G_link_72 ?_
          refine A_iconst hC d_G_link_74 (by decide) ?_
          refine A_icmpne (tgt := 87) hC d_G_link_75 (by decide) (fun h75 => ?_) (fun h75 => ?_)
          · refine A_ald0 hC d_G_link_87 ?_
            refine A_getCR (v := 6) hC d_G_link_88 fF_G_19 ⟨by decide, rfl⟩ ly_0 (by omega) ⟨rfl, by decide⟩ cv_0_1 ?_
            refine A_ild1 hC d_G_link_91 ?_
            refine A_ild2 hC d_G_link_92 ?_
            refine A_VF1 (as := [.inl r, .inl f]) hC d_G_link_93 mv_Ro_linkedCount lk_G_108 (by decide) sel_Ro_linkedCount hq_Ro ly_6 (by omega) (k_Ro_linkedCount l n M hn r f (by omega) (by omega)) rfl rfl (Nat.le_of_ble_eq_true rfl) ⟨Nat.zero_le _, Nat.zero_le _⟩ rfl ?_
            refine A_iconst hC d_G_link_96 (by decide) ?_
            refine A_icmplt (tgt := 103) hC d_G_link_97 (by decide) (fun h97 => ?_) (fun h97 => ?_)
            · refine A_ald0 hC d_G_link_103 ?_
              refine A_getCR (v := 6) hC d_G_link_104 fF_G_19 ⟨by decide, rfl⟩ ly_0 (by omega) ⟨rfl, by decide⟩ cv_0_1 ?_
              refine A_ild1 hC d_G_link_107 ?_
              refine A_ild2 hC d_G_link_108 ?_
              refine A_ild3 hC d_G_link_109 ?_
              refine A_VF1 (as := [.inl r, .inl f, .inl x]) hC d_G_link_110 mv_Ro_addLinked lk_G_111 (by decide) sel_Ro_addLinked hq_Ro ly_6 (by omega) (k_Ro_addLinked l n M hn r f x (by omega) (by omega) (by omega)) rfl rfl (Nat.le_of_ble_eq_true rfl) ⟨Nat.zero_le _, Nat.zero_le _⟩ rfl ?_
              refine A_iret hC d_G_link_113 rfl (Nat.le_refl _) (Nat.le_refl _) ?_
              exact ⟨fx_r (by (try rw [up_eq]); repeat (first | omega | split)), rfl, by repeat (first | rfl | omega | split)⟩
            · refine A_bipush hC d_G_link_100 (by decide) (by decide) ?_
              refine A_iret hC d_G_link_102 rfl (Nat.le_refl _) (Nat.le_refl _) ?_
              exact ⟨fx_r (by (try rw [up_eq]); repeat (first | omega | split)), rfl, by repeat (first | rfl | omega | split)⟩
          · refine A_ald0 hC d_G_link_78 ?_
            refine A_getCR (v := 6) hC d_G_link_79 fF_G_19 ⟨by decide, rfl⟩ ly_0 (by omega) ⟨rfl, by decide⟩ cv_0_1 ?_
            refine A_ild1 hC d_G_link_82 ?_
            refine A_ild2 hC d_G_link_83 ?_
            refine A_VF0 (as := [.inl r, .inl f]) hC d_G_link_84 mv_Ro_emptyField lk_G_104 (by decide) sel_Ro_emptyField hq_Ro ly_6 (by omega) (k_Ro_emptyField l n M hn r f (by omega) (by omega)) rfl rfl (Nat.le_of_ble_eq_true rfl) ⟨Nat.zero_le _, Nat.zero_le _⟩ rfl ?_
            refine A_ald0 hC d_G_link_87 ?_
            refine A_getCR (v := 6) hC d_G_link_88 fF_G_19 ⟨by decide, rfl⟩ ly_0 (by omega) ⟨rfl, by decide⟩ cv_0_1 ?_
            refine A_ild1 hC d_G_link_91 ?_
            refine A_ild2 hC d_G_link_92 ?_
            refine A_VF1 (as := [.inl r, .inl f]) hC d_G_link_93 mv_Ro_linkedCount lk_G_108 (by decide) sel_Ro_linkedCount hq_Ro ly_6 (by omega) (k_Ro_linkedCount l n (up (up M 8 ((r - 1) * 4 + f) (-1)) 9 ((r - 1) * 4 + f) 0) hn r f (by omega) (by omega)) rfl rfl (Nat.le_of_ble_eq_true rfl) ⟨Nat.zero_le _, Nat.zero_le _⟩ rfl ?_
            refine A_eqi (up_eq _ _ _ _) ?_
            refine A_iconst hC d_G_link_96 (by decide) ?_
            refine A_icmplt (tgt := 103) hC d_G_link_97 (by decide) (fun h97 => ?_) (fun h97 => ?_)
            rotate_left
            · exact absurd h97 (by decide)
            refine A_ald0 hC d_G_link_103 ?_
            refine A_getCR (v := 6) hC d_G_link_104 fF_G_19 ⟨by decide, rfl⟩ ly_0 (by omega) ⟨rfl, by decide⟩ cv_0_1 ?_
            refine A_ild1 hC d_G_link_107 ?_
            refine A_ild2 hC d_G_link_108 ?_
            refine A_ild3 hC d_G_link_109 ?_
            refine A_VF1 (as := [.inl r, .inl f, .inl x]) hC d_G_link_110 mv_Ro_addLinked lk_G_111 (by decide) sel_Ro_addLinked hq_Ro ly_6 (by omega) (k_Ro_addLinked l n (up (up M 8 ((r - 1) * 4 + f) (-1)) 9 ((r - 1) * 4 + f) 0) hn r f x (by omega) (by omega) (by rw [up_eq]; omega)) rfl rfl (Nat.le_of_ble_eq_true rfl) ⟨Nat.zero_le _, Nat.zero_le _⟩ rfl ?_
            refine A_iret hC d_G_link_113 rfl (Nat.le_refl _) (Nat.le_refl _) ?_
            exact ⟨fx_r (by (try rw [up_eq]); repeat (first | omega | split)), rfl, by repeat (first | rfl | omega | split)⟩
        · refine A_iconst hC d_G_link_70 (by decide) ?_
          refine A_iret hC d_G_link_71 rfl (Nat.le_refl _) (Nat.le_refl _) ?_
          exact ⟨fx_r (by (try rw [up_eq]); repeat (first | omega | split)), rfl, by repeat (first | rfl | omega | split)⟩
    · refine A_iconst hC d_G_link_31 (by decide) ?_
      refine A_iret hC d_G_link_32 rfl (Nat.le_refl _) (Nat.le_refl _) ?_
      exact ⟨fx_r (by (try rw [up_eq]); repeat (first | omega | split)), rfl, by repeat (first | rfl | omega | split)⟩
  · refine A_ild4 hC d_G_link_14 ?_
    refine A_iconst hC d_G_link_16 (by decide) ?_
    refine A_icmpne (tgt := 31) hC d_G_link_17 (by decide) (fun h17 => ?_) (fun h17 => ?_)
    · refine A_iconst hC d_G_link_31 (by decide) ?_
      refine A_iret hC d_G_link_32 rfl (Nat.le_refl _) (Nat.le_refl _) ?_
      exact ⟨fx_r (by (try rw [up_eq]); repeat (first | omega | split)), rfl, by repeat (first | rfl | omega | split)⟩
    · refine A_ald0 hC d_G_link_20 ?_
      refine A_getCR (v := 6) hC d_G_link_21 fF_G_19 ⟨by decide, rfl⟩ ly_0 (by omega) ⟨rfl, by decide⟩ cv_0_1 ?_
      refine A_ild3 hC d_G_link_24 ?_
      refine A_VF1 (as := [.inl x]) hC d_G_link_25 mv_Ro_hasRow lk_G_95 (by decide) sel_Ro_hasRow hq_Ro ly_6 (by omega) (k_Ro_hasRow l n M hn x) rfl rfl (Nat.le_of_ble_eq_true rfl) ⟨Nat.zero_le _, Nat.zero_le _⟩ rfl ?_
      refine A_ifne (tgt := 33) hC d_G_link_28 (by decide) (fun h28 => ?_) (fun h28 => ?_)
      · have hkk := kIn_in (M := M) (r := r) (f := f) (by omega)
        refine A_ald0 hC d_G_link_33 ?_
        refine A_getCR (v := 1) hC d_G_link_34 fF_G_12 ⟨by decide, rfl⟩ ly_0 (by omega) ⟨rfl, by decide⟩ cv_0_0 ?_
        refine A_ald0 hC d_G_link_37 ?_
        refine A_getCR (v := 6) hC d_G_link_38 fF_G_19 ⟨by decide, rfl⟩ ly_0 (by omega) ⟨rfl, by decide⟩ cv_0_1 ?_
        refine A_ild1 hC d_G_link_41 ?_
        refine A_VF1 (as := [.inl r]) hC d_G_link_42 mv_Ro_typeOf lk_G_98 (by decide) sel_Ro_typeOf hq_Ro ly_6 (by omega) (k_Ro_typeOf l n M hn r (by omega)) rfl rfl (Nat.le_of_ble_eq_true rfl) ⟨Nat.zero_le _, Nat.zero_le _⟩ rfl ?_
        refine A_ild2 hC d_G_link_45 ?_
        refine A_VF1 (as := [.inl (M 7 (r - 1)), .inl f]) hC d_G_link_46 mv_Sc_targetOf lk_G_101 (by decide) sel_Sc_targetOf hq_Sc ly_1 (by omega) (k_Sc_targetOf l n M hn hS (M 7 (r - 1)) f) rfl rfl (Nat.le_of_ble_eq_true rfl) ⟨Nat.zero_le _, Nat.zero_le _⟩ rfl ?_
        refine A_ist5 hC d_G_link_49 ?_
        refine A_ild5 hC d_G_link_51 ?_
        refine A_iconst hC d_G_link_53 (by decide) ?_
        refine A_icmpeq (tgt := 72) hC d_G_link_54 (by decide) (fun h54 => ?_) (fun h54 => ?_)
        · refine A_ild4 hC d_G_link_72 ?_
          refine A_iconst hC d_G_link_74 (by decide) ?_
          refine A_icmpne (tgt := 87) hC d_G_link_75 (by decide) (fun h75 => ?_) (fun h75 => ?_)
          · refine A_ald0 hC d_G_link_87 ?_
            refine A_getCR (v := 6) hC d_G_link_88 fF_G_19 ⟨by decide, rfl⟩ ly_0 (by omega) ⟨rfl, by decide⟩ cv_0_1 ?_
            refine A_ild1 hC d_G_link_91 ?_
            refine A_ild2 hC d_G_link_92 ?_
            refine A_VF1 (as := [.inl r, .inl f]) hC d_G_link_93 mv_Ro_linkedCount lk_G_108 (by decide) sel_Ro_linkedCount hq_Ro ly_6 (by omega) (k_Ro_linkedCount l n M hn r f (by omega) (by omega)) rfl rfl (Nat.le_of_ble_eq_true rfl) ⟨Nat.zero_le _, Nat.zero_le _⟩ rfl ?_
            refine A_iconst hC d_G_link_96 (by decide) ?_
            refine A_icmplt (tgt := 103) hC d_G_link_97 (by decide) (fun h97 => ?_) (fun h97 => ?_)
            · refine A_ald0 hC d_G_link_103 ?_
              refine A_getCR (v := 6) hC d_G_link_104 fF_G_19 ⟨by decide, rfl⟩ ly_0 (by omega) ⟨rfl, by decide⟩ cv_0_1 ?_
              refine A_ild1 hC d_G_link_107 ?_
              refine A_ild2 hC d_G_link_108 ?_
              refine A_ild3 hC d_G_link_109 ?_
              refine A_VF1 (as := [.inl r, .inl f, .inl x]) hC d_G_link_110 mv_Ro_addLinked lk_G_111 (by decide) sel_Ro_addLinked hq_Ro ly_6 (by omega) (k_Ro_addLinked l n M hn r f x (by omega) (by omega) (by omega)) rfl rfl (Nat.le_of_ble_eq_true rfl) ⟨Nat.zero_le _, Nat.zero_le _⟩ rfl ?_
              refine A_iret hC d_G_link_113 rfl (Nat.le_refl _) (Nat.le_refl _) ?_
              exact ⟨fx_r (by (try rw [up_eq]); repeat (first | omega | split)), rfl, by repeat (first | rfl | omega | split)⟩
            · refine A_bipush hC d_G_link_100 (by decide) (by decide) ?_
              refine A_iret hC d_G_link_102 rfl (Nat.le_refl _) (Nat.le_refl _) ?_
              exact ⟨fx_r (by (try rw [up_eq]); repeat (first | omega | split)), rfl, by repeat (first | rfl | omega | split)⟩
          · refine A_ald0 hC d_G_link_78 ?_
            refine A_getCR (v := 6) hC d_G_link_79 fF_G_19 ⟨by decide, rfl⟩ ly_0 (by omega) ⟨rfl, by decide⟩ cv_0_1 ?_
            refine A_ild1 hC d_G_link_82 ?_
            refine A_ild2 hC d_G_link_83 ?_
            refine A_VF0 (as := [.inl r, .inl f]) hC d_G_link_84 mv_Ro_emptyField lk_G_104 (by decide) sel_Ro_emptyField hq_Ro ly_6 (by omega) (k_Ro_emptyField l n M hn r f (by omega) (by omega)) rfl rfl (Nat.le_of_ble_eq_true rfl) ⟨Nat.zero_le _, Nat.zero_le _⟩ rfl ?_
            refine A_ald0 hC d_G_link_87 ?_
            refine A_getCR (v := 6) hC d_G_link_88 fF_G_19 ⟨by decide, rfl⟩ ly_0 (by omega) ⟨rfl, by decide⟩ cv_0_1 ?_
            refine A_ild1 hC d_G_link_91 ?_
            refine A_ild2 hC d_G_link_92 ?_
            refine A_VF1 (as := [.inl r, .inl f]) hC d_G_link_93 mv_Ro_linkedCount lk_G_108 (by decide) sel_Ro_linkedCount hq_Ro ly_6 (by omega) (k_Ro_linkedCount l n (up (up M 8 ((r - 1) * 4 + f) (-1)) 9 ((r - 1) * 4 + f) 0) hn r f (by omega) (by omega)) rfl rfl (Nat.le_of_ble_eq_true rfl) ⟨Nat.zero_le _, Nat.zero_le _⟩ rfl ?_
            refine A_eqi (up_eq _ _ _ _) ?_
            refine A_iconst hC d_G_link_96 (by decide) ?_
            refine A_icmplt (tgt := 103) hC d_G_link_97 (by decide) (fun h97 => ?_) (fun h97 => ?_)
            rotate_left
            · exact absurd h97 (by decide)
            refine A_ald0 hC d_G_link_103 ?_
            refine A_getCR (v := 6) hC d_G_link_104 fF_G_19 ⟨by decide, rfl⟩ ly_0 (by omega) ⟨rfl, by decide⟩ cv_0_1 ?_
            refine A_ild1 hC d_G_link_107 ?_
            refine A_ild2 hC d_G_link_108 ?_
            refine A_ild3 hC d_G_link_109 ?_
            refine A_VF1 (as := [.inl r, .inl f, .inl x]) hC d_G_link_110 mv_Ro_addLinked lk_G_111 (by decide) sel_Ro_addLinked hq_Ro ly_6 (by omega) (k_Ro_addLinked l n (up (up M 8 ((r - 1) * 4 + f) (-1)) 9 ((r - 1) * 4 + f) 0) hn r f x (by omega) (by omega) (by rw [up_eq]; omega)) rfl rfl (Nat.le_of_ble_eq_true rfl) ⟨Nat.zero_le _, Nat.zero_le _⟩ rfl ?_
            refine A_iret hC d_G_link_113 rfl (Nat.le_refl _) (Nat.le_refl _) ?_
            exact ⟨fx_r (by (try rw [up_eq]); repeat (first | omega | split)), rfl, by repeat (first | rfl | omega | split)⟩
        · refine A_ild5 hC d_G_link_57 ?_
          refine A_ald0 hC d_G_link_59 ?_
          refine A_getCR (v := 6) hC d_G_link_60 fF_G_19 ⟨by decide, rfl⟩ ly_0 (by omega) ⟨rfl, by decide⟩ cv_0_1 ?_
          refine A_ild3 hC d_G_link_63 ?_
          refine A_VF1 (as := [.inl x]) hC d_G_link_64 mv_Ro_typeOf lk_G_98 (by decide) sel_Ro_typeOf hq_Ro ly_6 (by omega) (k_Ro_typeOf l n M hn x (by omega)) rfl rfl (Nat.le_of_ble_eq_true rfl) ⟨Nat.zero_le _, Nat.zero_le _⟩ rfl ?_
          refine A_icmpeq (tgt := 72) hC d_G_link_67 (by decide) (fun h67 => ?_) (fun h67 => ?_)
          · refine A_ild4 hC d_G_link_72 ?_
            refine A_iconst hC d_G_link_74 (by decide) ?_
            refine A_icmpne (tgt := 87) hC d_G_link_75 (by decide) (fun h75 => ?_) (fun h75 => ?_)
            · refine A_ald0 hC d_G_link_87 ?_
              refine A_getCR (v := 6) hC d_G_link_88 fF_G_19 ⟨by decide, rfl⟩ ly_0 (by omega) ⟨rfl, by decide⟩ cv_0_1 ?_
              refine A_ild1 hC d_G_link_91 ?_
              refine A_ild2 hC d_G_link_92 ?_
              refine A_VF1 (as := [.inl r, .inl f]) hC d_G_link_93 mv_Ro_linkedCount lk_G_108 (by decide) sel_Ro_linkedCount hq_Ro ly_6 (by omega) (k_Ro_linkedCount l n M hn r f (by omega) (by omega)) rfl rfl (Nat.le_of_ble_eq_true rfl) ⟨Nat.zero_le _, Nat.zero_le _⟩ rfl ?_
              refine A_iconst hC d_G_link_96 (by decide) ?_
              refine A_icmplt (tgt := 103) hC d_G_link_97 (by decide) (fun h97 => ?_) (fun h97 => ?_)
              · refine A_ald0 hC d_G_link_103 ?_
                refine A_getCR (v := 6) hC d_G_link_104 fF_G_19 ⟨by decide, rfl⟩ ly_0 (by omega) ⟨rfl, by decide⟩ cv_0_1 ?_
                refine A_ild1 hC d_G_link_107 ?_
                refine A_ild2 hC d_G_link_108 ?_
                refine A_ild3 hC d_G_link_109 ?_
                refine A_VF1 (as := [.inl r, .inl f, .inl x]) hC d_G_link_110 mv_Ro_addLinked lk_G_111 (by decide) sel_Ro_addLinked hq_Ro ly_6 (by omega) (k_Ro_addLinked l n M hn r f x (by omega) (by omega) (by omega)) rfl rfl (Nat.le_of_ble_eq_true rfl) ⟨Nat.zero_le _, Nat.zero_le _⟩ rfl ?_
                refine A_iret hC d_G_link_113 rfl (Nat.le_refl _) (Nat.le_refl _) ?_
                exact ⟨fx_r (by (try rw [up_eq]); repeat (first | omega | split)), rfl, by repeat (first | rfl | omega | split)⟩
              · refine A_bipush hC d_G_link_100 (by decide) (by decide) ?_
                refine A_iret hC d_G_link_102 rfl (Nat.le_refl _) (Nat.le_refl _) ?_
                exact ⟨fx_r (by (try rw [up_eq]); repeat (first | omega | split)), rfl, by repeat (first | rfl | omega | split)⟩
            · refine A_ald0 hC d_G_link_78 ?_
              refine A_getCR (v := 6) hC d_G_link_79 fF_G_19 ⟨by decide, rfl⟩ ly_0 (by omega) ⟨rfl, by decide⟩ cv_0_1 ?_
              refine A_ild1 hC d_G_link_82 ?_
              refine A_ild2 hC d_G_link_83 ?_
              refine A_VF0 (as := [.inl r, .inl f]) hC d_G_link_84 mv_Ro_emptyField lk_G_104 (by decide) sel_Ro_emptyField hq_Ro ly_6 (by omega) (k_Ro_emptyField l n M hn r f (by omega) (by omega)) rfl rfl (Nat.le_of_ble_eq_true rfl) ⟨Nat.zero_le _, Nat.zero_le _⟩ rfl ?_
              refine A_ald0 hC d_G_link_87 ?_
              refine A_getCR (v := 6) hC d_G_link_88 fF_G_19 ⟨by decide, rfl⟩ ly_0 (by omega) ⟨rfl, by decide⟩ cv_0_1 ?_
              refine A_ild1 hC d_G_link_91 ?_
              refine A_ild2 hC d_G_link_92 ?_
              refine A_VF1 (as := [.inl r, .inl f]) hC d_G_link_93 mv_Ro_linkedCount lk_G_108 (by decide) sel_Ro_linkedCount hq_Ro ly_6 (by omega) (k_Ro_linkedCount l n (up (up M 8 ((r - 1) * 4 + f) (-1)) 9 ((r - 1) * 4 + f) 0) hn r f (by omega) (by omega)) rfl rfl (Nat.le_of_ble_eq_true rfl) ⟨Nat.zero_le _, Nat.zero_le _⟩ rfl ?_
              refine A_eqi (up_eq _ _ _ _) ?_
              refine A_iconst hC d_G_link_96 (by decide) ?_
              refine A_icmplt (tgt := 103) hC d_G_link_97 (by decide) (fun h97 => ?_) (fun h97 => ?_)
              rotate_left
              · exact absurd h97 (by decide)
              refine A_ald0 hC d_G_link_103 ?_
              refine A_getCR (v := 6) hC d_G_link_104 fF_G_19 ⟨by decide, rfl⟩ ly_0 (by omega) ⟨rfl, by decide⟩ cv_0_1 ?_
              refine A_ild1 hC d_G_link_107 ?_
              refine A_ild2 hC d_G_link_108 ?_
              refine A_ild3 hC d_G_link_109 ?_
              refine A_VF1 (as := [.inl r, .inl f, .inl x]) hC d_G_link_110 mv_Ro_addLinked lk_G_111 (by decide) sel_Ro_addLinked hq_Ro ly_6 (by omega) (k_Ro_addLinked l n (up (up M 8 ((r - 1) * 4 + f) (-1)) 9 ((r - 1) * 4 + f) 0) hn r f x (by omega) (by omega) (by rw [up_eq]; omega)) rfl rfl (Nat.le_of_ble_eq_true rfl) ⟨Nat.zero_le _, Nat.zero_le _⟩ rfl ?_
              refine A_iret hC d_G_link_113 rfl (Nat.le_refl _) (Nat.le_refl _) ?_
              exact ⟨fx_r (by (try rw [up_eq]); repeat (first | omega | split)), rfl, by repeat (first | rfl | omega | split)⟩
          · refine A_iconst hC d_G_link_70 (by decide) ?_
            refine A_iret hC d_G_link_71 rfl (Nat.le_refl _) (Nat.le_refl _) ?_
            exact ⟨fx_r (by (try rw [up_eq]); repeat (first | omega | split)), rfl, by repeat (first | rfl | omega | split)⟩
      · refine A_iconst hC d_G_link_31 (by decide) ?_
        refine A_iret hC d_G_link_32 rfl (Nat.le_refl _) (Nat.le_refl _) ?_
        exact ⟨fx_r (by (try rw [up_eq]); repeat (first | omega | split)), rfl, by repeat (first | rfl | omega | split)⟩
/-- the reference: types, fields, rows within their bounds -/
def MB (M : Mem) : Prop := (0 ≤ M 88 0 ∧ M 88 0 ≤ 5) ∧ (∀ t : Int, 0 ≤ M 89 t ∧ M 89 t ≤ 4) ∧ (0 ≤ M 88 3 ∧ M 88 3 ≤ 12) ∧ (∀ r : Int, 0 ≤ M 91 r ∧ M 91 r ≤ 4) ∧ (∀ i : Int, 0 ≤ M 92 i ∧ M 92 i ≤ 4) ∧ (∀ t : Int, 0 ≤ M 95 t ∧ M 95 t ≤ 16)
set_option maxHeartbeats 4000000 in
theorem k_Mo_in (l : Launch) (n : Nat) (M : Mem) (hn : 117 ≤ n) (x lo hi : Int) : AF l m_Mo_in 1 [.inl x, .inl lo, .inl hi] n M (some (.inl (if lo ≤ x ∧ x ≤ hi then 1 else 0))) M := by
  refine AM_intro (by decide) (Nat.le_of_ble_eq_true rfl) (fun X b0 D hC _ => ?_)
  show AW X b0 D true 0 0 _ n M 0 [some (.inl x), some (.inl lo), some (.inl hi)] []
  refine A_ild0 hC d_Mo_in_0 ?_
  refine A_ild1 hC d_Mo_in_1 ?_
  refine A_icmplt (tgt := 14) hC d_Mo_in_2 (by decide) (fun h2 => ?_) (fun h2 => ?_)
  · refine A_iconst hC d_Mo_in_14 (by decide) ?_
    refine A_zret hC d_Mo_in_15 rfl (Nat.le_refl _) (Nat.le_refl _) (by first | decide | omega) ?_
    exact ⟨fx_r (by split <;> omega), rfl, rfl⟩
  · refine A_ild0 hC d_Mo_in_5 ?_
    refine A_ild2 hC d_Mo_in_6 ?_
    refine A_icmpgt (tgt := 14) hC d_Mo_in_7 (by decide) (fun h7 => ?_) (fun h7 => ?_)
    · refine A_iconst hC d_Mo_in_14 (by decide) ?_
      refine A_zret hC d_Mo_in_15 rfl (Nat.le_refl _) (Nat.le_refl _) (by first | decide | omega) ?_
      exact ⟨fx_r (by split <;> omega), rfl, rfl⟩
    · refine A_iconst hC d_Mo_in_10 (by decide) ?_
      refine A_goto (tgt := 15) hC d_Mo_in_11 (by decide) ?_
      refine A_zret hC d_Mo_in_15 rfl (Nat.le_refl _) (Nat.le_refl _) (by first | decide | omega) ?_
      exact ⟨fx_r (by split <;> omega), rfl, rfl⟩
set_option maxHeartbeats 4000000 in
theorem k_Mo_type (l : Launch) (n : Nat) (M : Mem) (hn : 117 ≤ n) (hB : MB M) : AF l m_Mo_type 1 [.inr 88] n M (some (.inl (if M 88 0 = 5 ∨ 0 < M 88 3 then -2 else M 88 0))) (if M 88 0 = 5 ∨ 0 < M 88 3 then M else up M 88 0 (M 88 0 + 1)) := by
  refine AM_intro (by decide) (Nat.le_of_ble_eq_true rfl) (fun X b0 D hC _ => ?_)
  show AW X b0 D true 0 0 _ n M 0 [some (.inr 88)] []
  have hB1 := hB.1
  have hB2 := hB.2.1
  have hB3 := hB.2.2.1
  have hB4 := hB.2.2.2.1
  have hB5 := hB.2.2.2.2.1
  have hB6 := hB.2.2.2.2.2
  refine A_ald0 hC d_Mo_type_0 ?_
  refine A_getI (kI := 0) hC d_Mo_type_1 fF_Mo_99 ⟨by decide, rfl⟩ rfl ly_88 (by omega) ?_
  refine A_iconst hC d_Mo_type_4 (by decide) ?_
  refine A_icmpeq (tgt := 15) hC d_Mo_type_5 (by decide) (fun h5 => ?_) (fun h5 => ?_)
  · refine A_bipush hC d_Mo_type_15 (by decide) (by decide) ?_
    refine A_iret hC d_Mo_type_17 rfl (Nat.le_refl _) (Nat.le_refl _) ?_
    exact ⟨fx_r (by repeat (first | omega | split)), rfl, by repeat (first | rfl | omega | split)⟩
  · refine A_ald0 hC d_Mo_type_8 ?_
    refine A_getI (kI := 3) hC d_Mo_type_9 fF_Mo_102 ⟨by decide, rfl⟩ rfl ly_88 (by omega) ?_
    refine A_ifle (tgt := 18) hC d_Mo_type_12 (by decide) (fun h12 => ?_) (fun h12 => ?_)
    · refine A_ald0 hC d_Mo_type_18 ?_
      refine A_dup hC d_Mo_type_19 ?_
      refine A_getI (kI := 0) hC d_Mo_type_20 fF_Mo_99 ⟨by decide, rfl⟩ rfl ly_88 (by omega) ?_
      refine A_iconst hC d_Mo_type_23 (by decide) ?_
      refine A_iadd hC d_Mo_type_24 (by omega) ?_
      refine A_putI (kI := 0) hC d_Mo_type_25 fP_Mo_99 ⟨by decide, rfl⟩ rfl ly_88 (by omega) (fun _ => by decide) ?_
      refine A_ald0 hC d_Mo_type_28 ?_
      refine A_getIE (x := (M 88 0) + 1) (kI := 0) hC d_Mo_type_29 fF_Mo_99 ⟨by decide, rfl⟩ rfl ly_88 (by omega) (by rw [up_eq]) ?_
      refine A_iconst hC d_Mo_type_32 (by decide) ?_
      refine A_isub hC d_Mo_type_33 (by omega) ?_
      refine A_iret hC d_Mo_type_34 rfl (Nat.le_refl _) (Nat.le_refl _) ?_
      exact ⟨fx_r (by repeat (first | omega | split)), rfl, by repeat (first | rfl | omega | split)⟩
    · refine A_bipush hC d_Mo_type_15 (by decide) (by decide) ?_
      refine A_iret hC d_Mo_type_17 rfl (Nat.le_refl _) (Nat.le_refl _) ?_
      exact ⟨fx_r (by repeat (first | omega | split)), rfl, by repeat (first | rfl | omega | split)⟩
abbrev mfB (M : Mem) (t k g : Int) : Prop := ¬ (0 ≤ t ∧ t ≤ M 88 0 - 1) ∨ ¬ (0 ≤ k ∧ k ≤ 2) ∨ ¬ (0 ≤ g ∧ g ≤ 5) ∨ (0 < k ∧ g < 5 ∧ M 88 0 ≤ g)
abbrev mfF (M : Mem) (t : Int) : Prop := 0 < M 88 3 ∨ M 89 t = 4
set_option maxHeartbeats 4000000 in
theorem k_Mo_field (l : Launch) (n : Nat) (M : Mem) (hn : 117 ≤ n) (hB : MB M) (t k g r : Int) : AF l m_Mo_field 2 [.inr 88, .inl t, .inl k, .inl g, .inl r] n M (some (.inl (if mfB M t k g then -1 else if mfF M t then -2 else M 89 t))) (if mfB M t k g then M else if mfF M t then M else up (up (up (up M 90 (12 * t + 3 * M 89 t) k) 90 (12 * t + 3 * M 89 t + 1) g) 90 (12 * t + 3 * M 89 t + 2) (if r = 0 then 0 else 1)) 89 t (M 89 t + 1)) := by
  refine AM_intro (by decide) (Nat.le_of_ble_eq_true rfl) (fun X b0 D hC _ => ?_)
  show AW X b0 D true 0 0 _ n M 0 [some (.inr 88), some (.inl t), some (.inl k), some (.inl g), some (.inl r), none] []
  have hB1 := hB.1
  have hB2 := hB.2.1
  have hB3 := hB.2.2.1
  have hB4 := hB.2.2.2.1
  have hB5 := hB.2.2.2.2.1
  have hB6 := hB.2.2.2.2.2
  have hB2t := hB2 t
  refine A_ild1 hC d_Mo_field_0 ?_
  refine A_iconst hC d_Mo_field_1 (by decide) ?_
  refine A_ald0 hC d_Mo_field_2 ?_
  refine A_getI (kI := 0) hC d_Mo_field_3 fF_Mo_99 ⟨by decide, rfl⟩ rfl ly_88 (by omega) ?_
  refine A_iconst hC d_Mo_field_6 (by decide) ?_
  refine A_isub hC d_Mo_field_7 (by omega) ?_
  refine A_SF1 (as := [.inl t, .inl 0, .inl ((M 88 0) - 1)]) hC d_Mo_field_8 mv_Mo_in lk_Mo_105 (by decide) (k_Mo_in l n M hn t 0 ((M 88 0) - 1)) rfl rfl (Nat.le_of_ble_eq_true rfl) ⟨Nat.zero_le _, Nat.zero_le _⟩ rfl ?_
  refine A_ifeq (tgt := 32) hC d_Mo_field_11 (by decide) (fun h11 => ?_) (fun h11 => ?_)
  · refine A_iconst hC d_Mo_field_32 (by decide) ?_
    refine A_iret hC d_Mo_field_33 rfl (Nat.le_refl _) (Nat.le_refl _) ?_
    exact ⟨fx_r (by repeat (first | omega | split)), rfl, by repeat (first | rfl | omega | split)⟩
  · refine A_ild2 hC d_Mo_field_14 ?_
    refine A_iconst hC d_Mo_field_15 (by decide) ?_
    refine A_iconst hC d_Mo_field_16 (by decide) ?_
    refine A_SF1 (as := [.inl k, .inl 0, .inl 2]) hC d_Mo_field_17 mv_Mo_in lk_Mo_105 (by decide) (k_Mo_in l n M hn k 0 2) rfl rfl (Nat.le_of_ble_eq_true rfl) ⟨Nat.zero_le _, Nat.zero_le _⟩ rfl ?_
    refine A_ifeq (tgt := 32) hC d_Mo_field_20 (by decide) (fun h20 => ?_) (fun h20 => ?_)
    · refine A_iconst hC d_Mo_field_32 (by decide) ?_
      refine A_iret hC d_Mo_field_33 rfl (Nat.le_refl _) (Nat.le_refl _) ?_
      exact ⟨fx_r (by repeat (first | omega | split)), rfl, by repeat (first | rfl | omega | split)⟩
    · refine A_ild3 hC d_Mo_field_23 ?_
      refine A_iconst hC d_Mo_field_24 (by decide) ?_
      refine A_iconst hC d_Mo_field_25 (by decide) ?_
      refine A_SF1 (as := [.inl g, .inl 0, .inl 5]) hC d_Mo_field_26 mv_Mo_in lk_Mo_105 (by decide) (k_Mo_in l n M hn g 0 5) rfl rfl (Nat.le_of_ble_eq_true rfl) ⟨Nat.zero_le _, Nat.zero_le _⟩ rfl ?_
      refine A_ifne (tgt := 34) hC d_Mo_field_29 (by decide) (fun h29 => ?_) (fun h29 => ?_)
      · refine A_ild2 hC d_Mo_field_34 ?_
        refine A_ifle (tgt := 53) hC d_Mo_field_35 (by decide) (fun h35 => ?_) (fun h35 => ?_)
        · refine A_ald0 hC d_Mo_field_53 ?_
          refine A_getI (kI := 3) hC d_Mo_field_54 fF_Mo_102 ⟨by decide, rfl⟩ rfl ly_88 (by omega) ?_
          refine A_ifgt (tgt := 70) hC d_Mo_field_57 (by decide) (fun h57 => ?_) (fun h57 => ?_)
          · refine A_bipush hC d_Mo_field_70 (by decide) (by decide) ?_
            refine A_iret hC d_Mo_field_72 rfl (Nat.le_refl _) (Nat.le_refl _) ?_
            exact ⟨fx_r (by repeat (first | omega | split)), rfl, by repeat (first | rfl | omega | split)⟩
          · refine A_ald0 hC d_Mo_field_60 ?_
            refine A_getCR (v := 89) hC d_Mo_field_61 fF_Mo_7 ⟨by decide, rfl⟩ ly_88 (by omega) ⟨rfl, by decide⟩ cv_88_1 ?_
            refine A_ild1 hC d_Mo_field_64 ?_
            refine A_iald hC d_Mo_field_65 ly_89 (by omega) (by omega) ?_
            refine A_iconst hC d_Mo_field_66 (by decide) ?_
            refine A_icmpne (tgt := 73) hC d_Mo_field_67 (by decide) (fun h67 => ?_) (fun h67 => ?_)
            · refine A_bipush hC d_Mo_field_73 (by decide) (by decide) ?_
              refine A_ild1 hC d_Mo_field_75 ?_
              refine A_imul hC d_Mo_field_76 (by omega) ?_
              refine A_iconst hC d_Mo_field_77 (by decide) ?_
              refine A_ald0 hC d_Mo_field_78 ?_
              refine A_getCR (v := 89) hC d_Mo_field_79 fF_Mo_7 ⟨by decide, rfl⟩ ly_88 (by omega) ⟨rfl, by decide⟩ cv_88_1 ?_
              refine A_ild1 hC d_Mo_field_82 ?_
              refine A_iald hC d_Mo_field_83 ly_89 (by omega) (by omega) ?_
              refine A_imul hC d_Mo_field_84 (by omega) ?_
              refine A_iadd hC d_Mo_field_85 (by omega) ?_
              refine A_ist5 hC d_Mo_field_86 ?_
              refine A_ald0 hC d_Mo_field_88 ?_
              refine A_getCR (v := 90) hC d_Mo_field_89 fF_Mo_13 ⟨by decide, rfl⟩ ly_88 (by omega) ⟨rfl, by decide⟩ cv_88_2 ?_
              refine A_ild5 hC d_Mo_field_92 ?_
              refine A_ild2 hC d_Mo_field_94 ?_
              refine A_iast hC d_Mo_field_95 ly_90 (by omega) (by omega) (fun _ => kk_i _) ?_
              refine A_ald0 hC d_Mo_field_96 ?_
              refine A_getCR (v := 90) hC d_Mo_field_97 fF_Mo_13 ⟨by decide, rfl⟩ ly_88 (by omega) ⟨rfl, by decide⟩ cv_88_2 ?_
              refine A_ild5 hC d_Mo_field_100 ?_
              refine A_iconst hC d_Mo_field_102 (by decide) ?_
              refine A_iadd hC d_Mo_field_103 (by omega) ?_
              refine A_ild3 hC d_Mo_field_104 ?_
              refine A_iast hC d_Mo_field_105 ly_90 (by omega) (by omega) (fun _ => kk_i _) ?_
              refine A_ald0 hC d_Mo_field_106 ?_
              refine A_getCR (v := 90) hC d_Mo_field_107 fF_Mo_13 ⟨by decide, rfl⟩ ly_88 (by omega) ⟨rfl, by decide⟩ cv_88_2 ?_
              refine A_ild5 hC d_Mo_field_110 ?_
              refine A_iconst hC d_Mo_field_112 (by decide) ?_
              refine A_iadd hC d_Mo_field_113 (by omega) ?_
              refine A_ild4 hC d_Mo_field_114 ?_
              refine A_ifeq (tgt := 123) hC d_Mo_field_116 (by decide) (fun h116 => ?_) (fun h116 => ?_)
              · refine A_iconst hC d_Mo_field_123 (by decide) ?_
                refine A_iast hC d_Mo_field_124 ly_90 (by omega) (by omega) (fun _ => kk_i _) ?_
                refine A_ald0 hC d_Mo_field_125 ?_
                refine A_getCR (v := 89) hC d_Mo_field_126 fF_Mo_7 ⟨by decide, rfl⟩ ly_88 (by omega) ⟨rfl, by decide⟩ cv_88_1 ?_
                refine A_ild1 hC d_Mo_field_129 ?_
                refine A_dup2 hC d_Mo_field_130 ?_
                refine A_ialdE (x := M 89 t) hC d_Mo_field_131 ly_89 (by omega) (by omega) (by rw [up_nc (c := 90) (c' := 89) (by decide), up_nc (c := 90) (c' := 89) (by decide), up_nc (c := 90) (c' := 89) (by decide)]) ?_
                refine A_iconst hC d_Mo_field_132 (by decide) ?_
                refine A_iadd hC d_Mo_field_133 (by omega) ?_
                refine A_iast hC d_Mo_field_134 ly_89 (by omega) (by omega) (fun _ => kk_i _) ?_
                refine A_ald0 hC d_Mo_field_135 ?_
                refine A_getCR (v := 89) hC d_Mo_field_136 fF_Mo_7 ⟨by decide, rfl⟩ ly_88 (by omega) ⟨rfl, by decide⟩ cv_88_1 ?_
                refine A_ild1 hC d_Mo_field_139 ?_
                refine A_ialdE (x := (M 89 t) + 1) hC d_Mo_field_140 ly_89 (by omega) (by omega) (by rw [up_eq]) ?_
                refine A_iconst hC d_Mo_field_141 (by decide) ?_
                refine A_isub hC d_Mo_field_142 (by omega) ?_
                refine A_iret hC d_Mo_field_143 rfl (Nat.le_refl _) (Nat.le_refl _) ?_
                exact ⟨fx_r (by repeat (first | omega | split)), rfl, by repeat (first | rfl | omega | split)⟩
              · refine A_iconst hC d_Mo_field_119 (by decide) ?_
                refine A_goto (tgt := 124) hC d_Mo_field_120 (by decide) ?_
                refine A_iast hC d_Mo_field_124 ly_90 (by omega) (by omega) (fun _ => kk_i _) ?_
                refine A_ald0 hC d_Mo_field_125 ?_
                refine A_getCR (v := 89) hC d_Mo_field_126 fF_Mo_7 ⟨by decide, rfl⟩ ly_88 (by omega) ⟨rfl, by decide⟩ cv_88_1 ?_
                refine A_ild1 hC d_Mo_field_129 ?_
                refine A_dup2 hC d_Mo_field_130 ?_
                refine A_ialdE (x := M 89 t) hC d_Mo_field_131 ly_89 (by omega) (by omega) (by rw [up_nc (c := 90) (c' := 89) (by decide), up_nc (c := 90) (c' := 89) (by decide), up_nc (c := 90) (c' := 89) (by decide)]) ?_
                refine A_iconst hC d_Mo_field_132 (by decide) ?_
                refine A_iadd hC d_Mo_field_133 (by omega) ?_
                refine A_iast hC d_Mo_field_134 ly_89 (by omega) (by omega) (fun _ => kk_i _) ?_
                refine A_ald0 hC d_Mo_field_135 ?_
                refine A_getCR (v := 89) hC d_Mo_field_136 fF_Mo_7 ⟨by decide, rfl⟩ ly_88 (by omega) ⟨rfl, by decide⟩ cv_88_1 ?_
                refine A_ild1 hC d_Mo_field_139 ?_
                refine A_ialdE (x := (M 89 t) + 1) hC d_Mo_field_140 ly_89 (by omega) (by omega) (by rw [up_eq]) ?_
                refine A_iconst hC d_Mo_field_141 (by decide) ?_
                refine A_isub hC d_Mo_field_142 (by omega) ?_
                refine A_iret hC d_Mo_field_143 rfl (Nat.le_refl _) (Nat.le_refl _) ?_
                exact ⟨fx_r (by repeat (first | omega | split)), rfl, by repeat (first | rfl | omega | split)⟩
            · refine A_bipush hC d_Mo_field_70 (by decide) (by decide) ?_
              refine A_iret hC d_Mo_field_72 rfl (Nat.le_refl _) (Nat.le_refl _) ?_
              exact ⟨fx_r (by repeat (first | omega | split)), rfl, by repeat (first | rfl | omega | split)⟩
        · refine A_ild3 hC d_Mo_field_38 ?_
          refine A_iconst hC d_Mo_field_39 (by decide) ?_
          refine A_icmpge (tgt := 53) hC d_Mo_field_40 (by decide) (fun h40 => ?_) (fun h40 => ?_)
          · refine A_ald0 hC d_Mo_field_53 ?_
            refine A_getI (kI := 3) hC d_Mo_field_54 fF_Mo_102 ⟨by decide, rfl⟩ rfl ly_88 (by omega) ?_
            refine A_ifgt (tgt := 70) hC d_Mo_field_57 (by decide) (fun h57 => ?_) (fun h57 => ?_)
            · refine A_bipush hC d_Mo_field_70 (by decide) (by decide) ?_
              refine A_iret hC d_Mo_field_72 rfl (Nat.le_refl _) (Nat.le_refl _) ?_
              exact ⟨fx_r (by repeat (first | omega | split)), rfl, by repeat (first | rfl | omega | split)⟩
            · refine A_ald0 hC d_Mo_field_60 ?_
              refine A_getCR (v := 89) hC d_Mo_field_61 fF_Mo_7 ⟨by decide, rfl⟩ ly_88 (by omega) ⟨rfl, by decide⟩ cv_88_1 ?_
              refine A_ild1 hC d_Mo_field_64 ?_
              refine A_iald hC d_Mo_field_65 ly_89 (by omega) (by omega) ?_
              refine A_iconst hC d_Mo_field_66 (by decide) ?_
              refine A_icmpne (tgt := 73) hC d_Mo_field_67 (by decide) (fun h67 => ?_) (fun h67 => ?_)
              · refine A_bipush hC d_Mo_field_73 (by decide) (by decide) ?_
                refine A_ild1 hC d_Mo_field_75 ?_
                refine A_imul hC d_Mo_field_76 (by omega) ?_
                refine A_iconst hC d_Mo_field_77 (by decide) ?_
                refine A_ald0 hC d_Mo_field_78 ?_
                refine A_getCR (v := 89) hC d_Mo_field_79 fF_Mo_7 ⟨by decide, rfl⟩ ly_88 (by omega) ⟨rfl, by decide⟩ cv_88_1 ?_
                refine A_ild1 hC d_Mo_field_82 ?_
                refine A_iald hC d_Mo_field_83 ly_89 (by omega) (by omega) ?_
                refine A_imul hC d_Mo_field_84 (by omega) ?_
                refine A_iadd hC d_Mo_field_85 (by omega) ?_
                refine A_ist5 hC d_Mo_field_86 ?_
                refine A_ald0 hC d_Mo_field_88 ?_
                refine A_getCR (v := 90) hC d_Mo_field_89 fF_Mo_13 ⟨by decide, rfl⟩ ly_88 (by omega) ⟨rfl, by decide⟩ cv_88_2 ?_
                refine A_ild5 hC d_Mo_field_92 ?_
                refine A_ild2 hC d_Mo_field_94 ?_
                refine A_iast hC d_Mo_field_95 ly_90 (by omega) (by omega) (fun _ => kk_i _) ?_
                refine A_ald0 hC d_Mo_field_96 ?_
                refine A_getCR (v := 90) hC d_Mo_field_97 fF_Mo_13 ⟨by decide, rfl⟩ ly_88 (by omega) ⟨rfl, by decide⟩ cv_88_2 ?_
                refine A_ild5 hC d_Mo_field_100 ?_
                refine A_iconst hC d_Mo_field_102 (by decide) ?_
                refine A_iadd hC d_Mo_field_103 (by omega) ?_
                refine A_ild3 hC d_Mo_field_104 ?_
                refine A_iast hC d_Mo_field_105 ly_90 (by omega) (by omega) (fun _ => kk_i _) ?_
                refine A_ald0 hC d_Mo_field_106 ?_
                refine A_getCR (v := 90) hC d_Mo_field_107 fF_Mo_13 ⟨by decide, rfl⟩ ly_88 (by omega) ⟨rfl, by decide⟩ cv_88_2 ?_
                refine A_ild5 hC d_Mo_field_110 ?_
                refine A_iconst hC d_Mo_field_112 (by decide) ?_
                refine A_iadd hC d_Mo_field_113 (by omega) ?_
                refine A_ild4 hC d_Mo_field_114 ?_
                refine A_ifeq (tgt := 123) hC d_Mo_field_116 (by decide) (fun h116 => ?_) (fun h116 => ?_)
                · refine A_iconst hC d_Mo_field_123 (by decide) ?_
                  refine A_iast hC d_Mo_field_124 ly_90 (by omega) (by omega) (fun _ => kk_i _) ?_
                  refine A_ald0 hC d_Mo_field_125 ?_
                  refine A_getCR (v := 89) hC d_Mo_field_126 fF_Mo_7 ⟨by decide, rfl⟩ ly_88 (by omega) ⟨rfl, by decide⟩ cv_88_1 ?_
                  refine A_ild1 hC d_Mo_field_129 ?_
                  refine A_dup2 hC d_Mo_field_130 ?_
                  refine A_ialdE (x := M 89 t) hC d_Mo_field_131 ly_89 (by omega) (by omega) (by rw [up_nc (c := 90) (c' := 89) (by decide), up_nc (c := 90) (c' := 89) (by decide), up_nc (c := 90) (c' := 89) (by decide)]) ?_
                  refine A_iconst hC d_Mo_field_132 (by decide) ?_
                  refine A_iadd hC d_Mo_field_133 (by omega) ?_
                  refine A_iast hC d_Mo_field_134 ly_89 (by omega) (by omega) (fun _ => kk_i _) ?_
                  refine A_ald0 hC d_Mo_field_135 ?_
                  refine A_getCR (v := 89) hC d_Mo_field_136 fF_Mo_7 ⟨by decide, rfl⟩ ly_88 (by omega) ⟨rfl, by decide⟩ cv_88_1 ?_
                  refine A_ild1 hC d_Mo_field_139 ?_
                  refine A_ialdE (x := (M 89 t) + 1) hC d_Mo_field_140 ly_89 (by omega) (by omega) (by rw [up_eq]) ?_
                  refine A_iconst hC d_Mo_field_141 (by decide) ?_
                  refine A_isub hC d_Mo_field_142 (by omega) ?_
                  refine A_iret hC d_Mo_field_143 rfl (Nat.le_refl _) (Nat.le_refl _) ?_
                  exact ⟨fx_r (by repeat (first | omega | split)), rfl, by repeat (first | rfl | omega | split)⟩
                · refine A_iconst hC d_Mo_field_119 (by decide) ?_
                  refine A_goto (tgt := 124) hC d_Mo_field_120 (by decide) ?_
                  refine A_iast hC d_Mo_field_124 ly_90 (by omega) (by omega) (fun _ => kk_i _) ?_
                  refine A_ald0 hC d_Mo_field_125 ?_
                  refine A_getCR (v := 89) hC d_Mo_field_126 fF_Mo_7 ⟨by decide, rfl⟩ ly_88 (by omega) ⟨rfl, by decide⟩ cv_88_1 ?_
                  refine A_ild1 hC d_Mo_field_129 ?_
                  refine A_dup2 hC d_Mo_field_130 ?_
                  refine A_ialdE (x := M 89 t) hC d_Mo_field_131 ly_89 (by omega) (by omega) (by rw [up_nc (c := 90) (c' := 89) (by decide), up_nc (c := 90) (c' := 89) (by decide), up_nc (c := 90) (c' := 89) (by decide)]) ?_
                  refine A_iconst hC d_Mo_field_132 (by decide) ?_
                  refine A_iadd hC d_Mo_field_133 (by omega) ?_
                  refine A_iast hC d_Mo_field_134 ly_89 (by omega) (by omega) (fun _ => kk_i _) ?_
                  refine A_ald0 hC d_Mo_field_135 ?_
                  refine A_getCR (v := 89) hC d_Mo_field_136 fF_Mo_7 ⟨by decide, rfl⟩ ly_88 (by omega) ⟨rfl, by decide⟩ cv_88_1 ?_
                  refine A_ild1 hC d_Mo_field_139 ?_
                  refine A_ialdE (x := (M 89 t) + 1) hC d_Mo_field_140 ly_89 (by omega) (by omega) (by rw [up_eq]) ?_
                  refine A_iconst hC d_Mo_field_141 (by decide) ?_
                  refine A_isub hC d_Mo_field_142 (by omega) ?_
                  refine A_iret hC d_Mo_field_143 rfl (Nat.le_refl _) (Nat.le_refl _) ?_
                  exact ⟨fx_r (by repeat (first | omega | split)), rfl, by repeat (first | rfl | omega | split)⟩
              · refine A_bipush hC d_Mo_field_70 (by decide) (by decide) ?_
                refine A_iret hC d_Mo_field_72 rfl (Nat.le_refl _) (Nat.le_refl _) ?_
                exact ⟨fx_r (by repeat (first | omega | split)), rfl, by repeat (first | rfl | omega | split)⟩
          · refine A_ild3 hC d_Mo_field_43 ?_
            refine A_ald0 hC d_Mo_field_44 ?_
            refine A_getI (kI := 0) hC d_Mo_field_45 fF_Mo_99 ⟨by decide, rfl⟩ rfl ly_88 (by omega) ?_
            refine A_icmplt (tgt := 53) hC d_Mo_field_48 (by decide) (fun h48 => ?_) (fun h48 => ?_)
            · refine A_ald0 hC d_Mo_field_53 ?_
              refine A_getI (kI := 3) hC d_Mo_field_54 fF_Mo_102 ⟨by decide, rfl⟩ rfl ly_88 (by omega) ?_
              refine A_ifgt (tgt := 70) hC d_Mo_field_57 (by decide) (fun h57 => ?_) (fun h57 => ?_)
              · refine A_bipush hC d_Mo_field_70 (by decide) (by decide) ?_
                refine A_iret hC d_Mo_field_72 rfl (Nat.le_refl _) (Nat.le_refl _) ?_
                exact ⟨fx_r (by repeat (first | omega | split)), rfl, by repeat (first | rfl | omega | split)⟩
              · refine A_ald0 hC d_Mo_field_60 ?_
                refine A_getCR (v := 89) hC d_Mo_field_61 fF_Mo_7 ⟨by decide, rfl⟩ ly_88 (by omega) ⟨rfl, by decide⟩ cv_88_1 ?_
                refine A_ild1 hC d_Mo_field_64 ?_
                refine A_iald hC d_Mo_field_65 ly_89 (by omega) (by omega) ?_
                refine A_iconst hC d_Mo_field_66 (by decide) ?_
                refine A_icmpne (tgt := 73) hC d_Mo_field_67 (by decide) (fun h67 => ?_) (fun h67 => ?_)
                · refine A_bipush hC d_Mo_field_73 (by decide) (by decide) ?_
                  refine A_ild1 hC d_Mo_field_75 ?_
                  refine A_imul hC d_Mo_field_76 (by omega) ?_
                  refine A_iconst hC d_Mo_field_77 (by decide) ?_
                  refine A_ald0 hC d_Mo_field_78 ?_
                  refine A_getCR (v := 89) hC d_Mo_field_79 fF_Mo_7 ⟨by decide, rfl⟩ ly_88 (by omega) ⟨rfl, by decide⟩ cv_88_1 ?_
                  refine A_ild1 hC d_Mo_field_82 ?_
                  refine A_iald hC d_Mo_field_83 ly_89 (by omega) (by omega) ?_
                  refine A_imul hC d_Mo_field_84 (by omega) ?_
                  refine A_iadd hC d_Mo_field_85 (by omega) ?_
                  refine A_ist5 hC d_Mo_field_86 ?_
                  refine A_ald0 hC d_Mo_field_88 ?_
                  refine A_getCR (v := 90) hC d_Mo_field_89 fF_Mo_13 ⟨by decide, rfl⟩ ly_88 (by omega) ⟨rfl, by decide⟩ cv_88_2 ?_
                  refine A_ild5 hC d_Mo_field_92 ?_
                  refine A_ild2 hC d_Mo_field_94 ?_
                  refine A_iast hC d_Mo_field_95 ly_90 (by omega) (by omega) (fun _ => kk_i _) ?_
                  refine A_ald0 hC d_Mo_field_96 ?_
                  refine A_getCR (v := 90) hC d_Mo_field_97 fF_Mo_13 ⟨by decide, rfl⟩ ly_88 (by omega) ⟨rfl, by decide⟩ cv_88_2 ?_
                  refine A_ild5 hC d_Mo_field_100 ?_
                  refine A_iconst hC d_Mo_field_102 (by decide) ?_
                  refine A_iadd hC d_Mo_field_103 (by omega) ?_
                  refine A_ild3 hC d_Mo_field_104 ?_
                  refine A_iast hC d_Mo_field_105 ly_90 (by omega) (by omega) (fun _ => kk_i _) ?_
                  refine A_ald0 hC d_Mo_field_106 ?_
                  refine A_getCR (v := 90) hC d_Mo_field_107 fF_Mo_13 ⟨by decide, rfl⟩ ly_88 (by omega) ⟨rfl, by decide⟩ cv_88_2 ?_
                  refine A_ild5 hC d_Mo_field_110 ?_
                  refine A_iconst hC d_Mo_field_112 (by decide) ?_
                  refine A_iadd hC d_Mo_field_113 (by omega) ?_
                  refine A_ild4 hC d_Mo_field_114 ?_
                  refine A_ifeq (tgt := 123) hC d_Mo_field_116 (by decide) (fun h116 => ?_) (fun h116 => ?_)
                  · refine A_iconst hC d_Mo_field_123 (by decide) ?_
                    refine A_iast hC d_Mo_field_124 ly_90 (by omega) (by omega) (fun _ => kk_i _) ?_
                    refine A_ald0 hC d_Mo_field_125 ?_
                    refine A_getCR (v := 89) hC d_Mo_field_126 fF_Mo_7 ⟨by decide, rfl⟩ ly_88 (by omega) ⟨rfl, by decide⟩ cv_88_1 ?_
                    refine A_ild1 hC d_Mo_field_129 ?_
                    refine A_dup2 hC d_Mo_field_130 ?_
                    refine A_ialdE (x := M 89 t) hC d_Mo_field_131 ly_89 (by omega) (by omega) (by rw [up_nc (c := 90) (c' := 89) (by decide), up_nc (c := 90) (c' := 89) (by decide), up_nc (c := 90) (c' := 89) (by decide)]) ?_
                    refine A_iconst hC d_Mo_field_132 (by decide) ?_
                    refine A_iadd hC d_Mo_field_133 (by omega) ?_
                    refine A_iast hC d_Mo_field_134 ly_89 (by omega) (by omega) (fun _ => kk_i _) ?_
                    refine A_ald0 hC d_Mo_field_135 ?_
                    refine A_getCR (v := 89) hC d_Mo_field_136 fF_Mo_7 ⟨by decide, rfl⟩ ly_88 (by omega) ⟨rfl, by decide⟩ cv_88_1 ?_
                    refine A_ild1 hC d_Mo_field_139 ?_
                    refine A_ialdE (x := (M 89 t) + 1) hC d_Mo_field_140 ly_89 (by omega) (by omega) (by rw [up_eq]) ?_
                    refine A_iconst hC d_Mo_field_141 (by decide) ?_
                    refine A_isub hC d_Mo_field_142 (by omega) ?_
                    refine A_iret hC d_Mo_field_143 rfl (Nat.le_refl _) (Nat.le_refl _) ?_
                    exact ⟨fx_r (by repeat (first | omega | split)), rfl, by repeat (first | rfl | omega | split)⟩
                  · refine A_iconst hC d_Mo_field_119 (by decide) ?_
                    refine A_goto (tgt := 124) hC d_Mo_field_120 (by decide) ?_
                    refine A_iast hC d_Mo_field_124 ly_90 (by omega) (by omega) (fun _ => kk_i _) ?_
                    refine A_ald0 hC d_Mo_field_125 ?_
                    refine A_getCR (v := 89) hC d_Mo_field_126 fF_Mo_7 ⟨by decide, rfl⟩ ly_88 (by omega) ⟨rfl, by decide⟩ cv_88_1 ?_
                    refine A_ild1 hC d_Mo_field_129 ?_
                    refine A_dup2 hC d_Mo_field_130 ?_
                    refine A_ialdE (x := M 89 t) hC d_Mo_field_131 ly_89 (by omega) (by omega) (by rw [up_nc (c := 90) (c' := 89) (by decide), up_nc (c := 90) (c' := 89) (by decide), up_nc (c := 90) (c' := 89) (by decide)]) ?_
                    refine A_iconst hC d_Mo_field_132 (by decide) ?_
                    refine A_iadd hC d_Mo_field_133 (by omega) ?_
                    refine A_iast hC d_Mo_field_134 ly_89 (by omega) (by omega) (fun _ => kk_i _) ?_
                    refine A_ald0 hC d_Mo_field_135 ?_
                    refine A_getCR (v := 89) hC d_Mo_field_136 fF_Mo_7 ⟨by decide, rfl⟩ ly_88 (by omega) ⟨rfl, by decide⟩ cv_88_1 ?_
                    refine A_ild1 hC d_Mo_field_139 ?_
                    refine A_ialdE (x := (M 89 t) + 1) hC d_Mo_field_140 ly_89 (by omega) (by omega) (by rw [up_eq]) ?_
                    refine A_iconst hC d_Mo_field_141 (by decide) ?_
                    refine A_isub hC d_Mo_field_142 (by omega) ?_
                    refine A_iret hC d_Mo_field_143 rfl (Nat.le_refl _) (Nat.le_refl _) ?_
                    exact ⟨fx_r (by repeat (first | omega | split)), rfl, by repeat (first | rfl | omega | split)⟩
                · refine A_bipush hC d_Mo_field_70 (by decide) (by decide) ?_
                  refine A_iret hC d_Mo_field_72 rfl (Nat.le_refl _) (Nat.le_refl _) ?_
                  exact ⟨fx_r (by repeat (first | omega | split)), rfl, by repeat (first | rfl | omega | split)⟩
            · refine A_iconst hC d_Mo_field_51 (by decide) ?_
              refine A_iret hC d_Mo_field_52 rfl (Nat.le_refl _) (Nat.le_refl _) ?_
              exact ⟨fx_r (by repeat (first | omega | split)), rfl, by repeat (first | rfl | omega | split)⟩
      · refine A_iconst hC d_Mo_field_32 (by decide) ?_
        refine A_iret hC d_Mo_field_33 rfl (Nat.le_refl _) (Nat.le_refl _) ?_
        exact ⟨fx_r (by repeat (first | omega | split)), rfl, by repeat (first | rfl | omega | split)⟩
set_option maxHeartbeats 4000000 in
theorem k_Mo_row (l : Launch) (n : Nat) (M : Mem) (hn : 117 ≤ n) (hB : MB M) (t : Int) : AF l m_Mo_row 2 [.inr 88, .inl t] n M (some (.inl (if ¬ (0 ≤ t ∧ t ≤ M 88 0 - 1) then -1 else if M 88 3 = 12 then -2 else M 88 3 + 1))) (if ¬ (0 ≤ t ∧ t ≤ M 88 0 - 1) then M else if M 88 3 = 12 then M else up (up M 88 3 (M 88 3 + 1)) 91 (M 88 3 + 1) t) := by
  refine AM_intro (by decide) (Nat.le_of_ble_eq_true rfl) (fun X b0 D hC _ => ?_)
  show AW X b0 D true 0 0 _ n M 0 [some (.inr 88), some (.inl t)] []
  have hB1 := hB.1
  have hB2 := hB.2.1
  have hB3 := hB.2.2.1
  have hB4 := hB.2.2.2.1
  have hB5 := hB.2.2.2.2.1
  have hB6 := hB.2.2.2.2.2
  refine A_ild1 hC d_Mo_row_0 ?_
  refine A_iconst hC d_Mo_row_1 (by decide) ?_
  refine A_ald0 hC d_Mo_row_2 ?_
  refine A_getI (kI := 0) hC d_Mo_row_3 fF_Mo_99 ⟨by decide, rfl⟩ rfl ly_88 (by omega) ?_
  refine A_iconst hC d_Mo_row_6 (by decide) ?_
  refine A_isub hC d_Mo_row_7 (by omega) ?_
  refine A_SF1 (as := [.inl t, .inl 0, .inl ((M 88 0) - 1)]) hC d_Mo_row_8 mv_Mo_in lk_Mo_105 (by decide) (k_Mo_in l n M hn t 0 ((M 88 0) - 1)) rfl rfl (Nat.le_of_ble_eq_true rfl) ⟨Nat.zero_le _, Nat.zero_le _⟩ rfl ?_
  refine A_ifne (tgt := 16) hC d_Mo_row_11 (by decide) (fun h11 => ?_) (fun h11 => ?_)
  · refine A_ald0 hC d_Mo_row_16 ?_
    refine A_getI (kI := 3) hC d_Mo_row_17 fF_Mo_102 ⟨by decide, rfl⟩ rfl ly_88 (by omega) ?_
    refine A_bipush hC d_Mo_row_20 (by decide) (by decide) ?_
    refine A_icmpne (tgt := 28) hC d_Mo_row_22 (by decide) (fun h22 => ?_) (fun h22 => ?_)
    · refine A_ald0 hC d_Mo_row_28 ?_
      refine A_dup hC d_Mo_row_29 ?_
      refine A_getI (kI := 3) hC d_Mo_row_30 fF_Mo_102 ⟨by decide, rfl⟩ rfl ly_88 (by omega) ?_
      refine A_iconst hC d_Mo_row_33 (by decide) ?_
      refine A_iadd hC d_Mo_row_34 (by omega) ?_
      refine A_putI (kI := 3) hC d_Mo_row_35 fP_Mo_102 ⟨by decide, rfl⟩ rfl ly_88 (by omega) (fun _ => by decide) ?_
      refine A_ald0 hC d_Mo_row_38 ?_
      refine A_getCR (v := 91) hC d_Mo_row_39 fF_Mo_16 ⟨by decide, rfl⟩ ly_88 (by omega) ⟨rfl, by decide⟩ cv_88_4 ?_
      refine A_ald0 hC d_Mo_row_42 ?_
      refine A_getIE (x := (M 88 3) + 1) (kI := 3) hC d_Mo_row_43 fF_Mo_102 ⟨by decide, rfl⟩ rfl ly_88 (by omega) (by rw [up_eq]) ?_
      refine A_ild1 hC d_Mo_row_46 ?_
      refine A_iast hC d_Mo_row_47 ly_91 (by omega) (by omega) (fun _ => kk_i _) ?_
      refine A_ald0 hC d_Mo_row_48 ?_
      refine A_getIE (x := (M 88 3) + 1) (kI := 3) hC d_Mo_row_49 fF_Mo_102 ⟨by decide, rfl⟩ rfl ly_88 (by omega) (by rw [up_nc (c := 91) (c' := 88) (by decide), up_eq]) ?_
      refine A_iret hC d_Mo_row_52 rfl (Nat.le_refl _) (Nat.le_refl _) ?_
      exact ⟨fx_r (by repeat (first | omega | split)), rfl, by repeat (first | rfl | omega | split)⟩
    · refine A_bipush hC d_Mo_row_25 (by decide) (by decide) ?_
      refine A_iret hC d_Mo_row_27 rfl (Nat.le_refl _) (Nat.le_refl _) ?_
      exact ⟨fx_r (by repeat (first | omega | split)), rfl, by repeat (first | rfl | omega | split)⟩
  · refine A_iconst hC d_Mo_row_14 (by decide) ?_
    refine A_iret hC d_Mo_row_15 rfl (Nat.le_refl _) (Nat.le_refl _) ?_
    exact ⟨fx_r (by repeat (first | omega | split)), rfl, by repeat (first | rfl | omega | split)⟩
set_option maxHeartbeats 4000000 in
theorem k_Mo_of (l : Launch) (n : Nat) (M : Mem) (hn : 117 ≤ n) (hB : MB M) (r f k : Int) (hr : 0 ≤ r ∧ r ≤ 12) (hf : 0 ≤ f ∧ f ≤ 3) (hk : 0 ≤ k ∧ k ≤ 2) : AF l m_Mo_of 1 [.inr 88, .inl r, .inl f, .inl k] n M (some (.inl (M 90 (12 * M 91 r + 3 * f + k)))) M := by
  refine AM_intro (by decide) (Nat.le_of_ble_eq_true rfl) (fun X b0 D hC _ => ?_)
  show AW X b0 D true 0 0 _ n M 0 [some (.inr 88), some (.inl r), some (.inl f), some (.inl k)] []
  have hB1 := hB.1
  have hB2 := hB.2.1
  have hB3 := hB.2.2.1
  have hB4 := hB.2.2.2.1
  have hB5 := hB.2.2.2.2.1
  have hB6 := hB.2.2.2.2.2
  have hB4r := hB4 r
  refine A_ald0 hC d_Mo_of_0 ?_
  refine A_getCR (v := 90) hC d_Mo_of_1 fF_Mo_13 ⟨by decide, rfl⟩ ly_88 (by omega) ⟨rfl, by decide⟩ cv_88_2 ?_
  refine A_bipush hC d_Mo_of_4 (by decide) (by decide) ?_
  refine A_ald0 hC d_Mo_of_6 ?_
  refine A_getCR (v := 91) hC d_Mo_of_7 fF_Mo_16 ⟨by decide, rfl⟩ ly_88 (by omega) ⟨rfl, by decide⟩ cv_88_4 ?_
  refine A_ild1 hC d_Mo_of_10 ?_
  refine A_iald hC d_Mo_of_11 ly_91 (by omega) (by omega) ?_
  refine A_imul hC d_Mo_of_12 (by omega) ?_
  refine A_iconst hC d_Mo_of_13 (by decide) ?_
  refine A_ild2 hC d_Mo_of_14 ?_
  refine A_imul hC d_Mo_of_15 (by omega) ?_
  refine A_iadd hC d_Mo_of_16 (by omega) ?_
  refine A_ild3 hC d_Mo_of_17 ?_
  refine A_iadd hC d_Mo_of_18 (by omega) ?_
  refine A_iald hC d_Mo_of_19 ly_90 (by omega) (by omega) ?_
  refine A_iret hC d_Mo_of_20 rfl (Nat.le_refl _) (Nat.le_refl _) ?_
  exact ⟨rfl, rfl, rfl⟩
abbrev mBf (M : Mem) (r f : Int) : Prop := ¬ (1 ≤ r ∧ r ≤ M 88 3) ∨ ¬ (0 ≤ f ∧ f ≤ M 89 (M 91 r) - 1)
set_option maxHeartbeats 4000000 in
theorem k_Mo_badField (l : Launch) (n : Nat) (M : Mem) (hn : 117 ≤ n) (hB : MB M) (r f : Int) : AF l m_Mo_badField 2 [.inr 88, .inl r, .inl f] n M (some (.inl (if mBf M r f then 1 else 0))) M := by
  refine AM_intro (by decide) (Nat.le_of_ble_eq_true rfl) (fun X b0 D hC _ => ?_)
  show AW X b0 D true 0 0 _ n M 0 [some (.inr 88), some (.inl r), some (.inl f)] []
  have hB1 := hB.1
  have hB2 := hB.2.1
  have hB3 := hB.2.2.1
  have hB4 := hB.2.2.2.1
  have hB5 := hB.2.2.2.2.1
  have hB6 := hB.2.2.2.2.2
  have hB4r := hB4 r
  have hB2r := hB2 (M 91 r)
  refine A_ild1 hC d_Mo_badField_0 ?_
  refine A_iconst hC d_Mo_badField_1 (by decide) ?_
  refine A_ald0 hC d_Mo_badField_2 ?_
  refine A_getI (kI := 3) hC d_Mo_badField_3 fF_Mo_102 ⟨by decide, rfl⟩ rfl ly_88 (by omega) ?_
  refine A_SF1 (as := [.inl r, .inl 1, .inl (M 88 3)]) hC d_Mo_badField_6 mv_Mo_in lk_Mo_105 (by decide) (k_Mo_in l n M hn r 1 (M 88 3)) rfl rfl (Nat.le_of_ble_eq_true rfl) ⟨Nat.zero_le _, Nat.zero_le _⟩ rfl ?_
  refine A_ifeq (tgt := 33) hC d_Mo_badField_9 (by decide) (fun h9 => ?_) (fun h9 => ?_)
  · refine A_iconst hC d_Mo_badField_33 (by decide) ?_
    refine A_goto (tgt := 38) hC d_Mo_badField_34 (by decide) ?_
    refine A_zret hC d_Mo_badField_38 rfl (Nat.le_refl _) (Nat.le_refl _) (by first | decide | omega) ?_
    exact ⟨fx_r (by split <;> omega), rfl, rfl⟩
  · refine A_ild2 hC d_Mo_badField_12 ?_
    refine A_iconst hC d_Mo_badField_13 (by decide) ?_
    refine A_ald0 hC d_Mo_badField_14 ?_
    refine A_getCR (v := 89) hC d_Mo_badField_15 fF_Mo_7 ⟨by decide, rfl⟩ ly_88 (by omega) ⟨rfl, by decide⟩ cv_88_1 ?_
    refine A_ald0 hC d_Mo_badField_18 ?_
    refine A_getCR (v := 91) hC d_Mo_badField_19 fF_Mo_16 ⟨by decide, rfl⟩ ly_88 (by omega) ⟨rfl, by decide⟩ cv_88_4 ?_
    refine A_ild1 hC d_Mo_badField_22 ?_
    refine A_iald hC d_Mo_badField_23 ly_91 (by omega) (by omega) ?_
    refine A_iald hC d_Mo_badField_24 ly_89 (by omega) (by omega) ?_
    refine A_iconst hC d_Mo_badField_25 (by decide) ?_
    refine A_isub hC d_Mo_badField_26 (by omega) ?_
    refine A_SF1 (as := [.inl f, .inl 0, .inl ((M 89 (M 91 r)) - 1)]) hC d_Mo_badField_27 mv_Mo_in lk_Mo_105 (by decide) (k_Mo_in l n M hn f 0 ((M 89 (M 91 r)) - 1)) rfl rfl (Nat.le_of_ble_eq_true rfl) ⟨Nat.zero_le _, Nat.zero_le _⟩ rfl ?_
    refine A_ifne (tgt := 37) hC d_Mo_badField_30 (by decide) (fun h30 => ?_) (fun h30 => ?_)
    · refine A_iconst hC d_Mo_badField_37 (by decide) ?_
      refine A_zret hC d_Mo_badField_38 rfl (Nat.le_refl _) (Nat.le_refl _) (by first | decide | omega) ?_
      exact ⟨fx_r (by split <;> omega), rfl, rfl⟩
    · refine A_iconst hC d_Mo_badField_33 (by decide) ?_
      refine A_goto (tgt := 38) hC d_Mo_badField_34 (by decide) ?_
      refine A_zret hC d_Mo_badField_38 rfl (Nat.le_refl _) (Nat.le_refl _) (by first | decide | omega) ?_
      exact ⟨fx_r (by split <;> omega), rfl, rfl⟩
set_option maxHeartbeats 4000000 in
theorem k_Mo_put (l : Launch) (n : Nat) (M : Mem) (hn : 117 ≤ n) (hB : MB M) (r f x : Int) : AF l m_Mo_put 3 [.inr 88, .inl r, .inl f, .inl x] n M (some (.inl (if mBf M r f ∨ ¬ (0 ≤ x ∧ x ≤ 999) ∨ ¬ M 90 (12 * M 91 r + 3 * f + 0) = 0 then -1 else 0))) (if mBf M r f ∨ ¬ (0 ≤ x ∧ x ≤ 999) ∨ ¬ M 90 (12 * M 91 r + 3 * f + 0) = 0 then M else up (up M 92 (4 * r + f) 1) 93 (16 * r + 4 * f) x) := by
  refine AM_intro (by decide) (Nat.le_of_ble_eq_true rfl) (fun X b0 D hC _ => ?_)
  show AW X b0 D true 0 0 _ n M 0 [some (.inr 88), some (.inl r), some (.inl f), some (.inl x)] []
  have hB1 := hB.1
  have hB2 := hB.2.1
  have hB3 := hB.2.2.1
  have hB4 := hB.2.2.2.1
  have hB5 := hB.2.2.2.2.1
  have hB6 := hB.2.2.2.2.2
  have hB4r := hB4 r
  have hB2r := hB2 (M 91 r)
  refine A_ald0 hC d_Mo_put_0 ?_
  refine A_ild1 hC d_Mo_put_1 ?_
  refine A_ild2 hC d_Mo_put_2 ?_
  refine A_VF1 (as := [.inl r, .inl f]) hC d_Mo_put_3 mv_Mo_badField lk_Mo_109 (by decide) sel_Mo_badField hq_Mo ly_88 (by omega) (k_Mo_badField l n M hn hB r f) rfl rfl (Nat.le_of_ble_eq_true rfl) ⟨Nat.zero_le _, Nat.zero_le _⟩ rfl ?_
  refine A_ifne (tgt := 30) hC d_Mo_put_6 (by decide) (fun h6 => ?_) (fun h6 => ?_)
  · refine A_iconst hC d_Mo_put_30 (by decide) ?_
    refine A_iret hC d_Mo_put_31 rfl (Nat.le_refl _) (Nat.le_refl _) ?_
    exact ⟨fx_r (by repeat (first | omega | split)), rfl, by repeat (first | rfl | omega | split)⟩
  · refine A_ild3 hC d_Mo_put_9 ?_
    refine A_iconst hC d_Mo_put_10 (by decide) ?_
    refine A_sipush hC d_Mo_put_11 (by decide) (by decide) ?_
    refine A_SF1 (as := [.inl x, .inl 0, .inl 999]) hC d_Mo_put_14 mv_Mo_in lk_Mo_105 (by decide) (k_Mo_in l n M hn x 0 999) rfl rfl (Nat.le_of_ble_eq_true rfl) ⟨Nat.zero_le _, Nat.zero_le _⟩ rfl ?_
    refine A_ifeq (tgt := 30) hC d_Mo_put_17 (by decide) (fun h17 => ?_) (fun h17 => ?_)
    · refine A_iconst hC d_Mo_put_30 (by decide) ?_
      refine A_iret hC d_Mo_put_31 rfl (Nat.le_refl _) (Nat.le_refl _) ?_
      exact ⟨fx_r (by repeat (first | omega | split)), rfl, by repeat (first | rfl | omega | split)⟩
    · refine A_ald0 hC d_Mo_put_20 ?_
      refine A_ild1 hC d_Mo_put_21 ?_
      refine A_ild2 hC d_Mo_put_22 ?_
      refine A_iconst hC d_Mo_put_23 (by decide) ?_
      refine A_VF1 (as := [.inl r, .inl f, .inl 0]) hC d_Mo_put_24 mv_Mo_of lk_Mo_113 (by decide) sel_Mo_of hq_Mo ly_88 (by omega) (k_Mo_of l n M hn hB r f 0 (by omega) (by omega) (by omega)) rfl rfl (Nat.le_of_ble_eq_true rfl) ⟨Nat.zero_le _, Nat.zero_le _⟩ rfl ?_
      refine A_ifeq (tgt := 32) hC d_Mo_put_27 (by decide) (fun h27 => ?_) (fun h27 => ?_)
      · refine A_ald0 hC d_Mo_put_32 ?_
        refine A_getCR (v := 92) hC d_Mo_put_33 fF_Mo_19 ⟨by decide, rfl⟩ ly_88 (by omega) ⟨rfl, by decide⟩ cv_88_5 ?_
        refine A_iconst hC d_Mo_put_36 (by decide) ?_
        refine A_ild1 hC d_Mo_put_37 ?_
        refine A_imul hC d_Mo_put_38 (by omega) ?_
        refine A_ild2 hC d_Mo_put_39 ?_
        refine A_iadd hC d_Mo_put_40 (by omega) ?_
        refine A_iconst hC d_Mo_put_41 (by decide) ?_
        refine A_iast hC d_Mo_put_42 ly_92 (by omega) (by omega) (fun _ => kk_i _) ?_
        refine A_ald0 hC d_Mo_put_43 ?_
        refine A_getCR (v := 93) hC d_Mo_put_44 fF_Mo_22 ⟨by decide, rfl⟩ ly_88 (by omega) ⟨rfl, by decide⟩ cv_88_6 ?_
        refine A_bipush hC d_Mo_put_47 (by decide) (by decide) ?_
        refine A_ild1 hC d_Mo_put_49 ?_
        refine A_imul hC d_Mo_put_50 (by omega) ?_
        refine A_iconst hC d_Mo_put_51 (by decide) ?_
        refine A_ild2 hC d_Mo_put_52 ?_
        refine A_imul hC d_Mo_put_53 (by omega) ?_
        refine A_iadd hC d_Mo_put_54 (by omega) ?_
        refine A_ild3 hC d_Mo_put_55 ?_
        refine A_iast hC d_Mo_put_56 ly_93 (by omega) (by omega) (fun _ => kk_i _) ?_
        refine A_iconst hC d_Mo_put_57 (by decide) ?_
        refine A_iret hC d_Mo_put_58 rfl (Nat.le_refl _) (Nat.le_refl _) ?_
        exact ⟨fx_r (by repeat (first | omega | split)), rfl, by repeat (first | rfl | omega | split)⟩
      · refine A_iconst hC d_Mo_put_30 (by decide) ?_
        refine A_iret hC d_Mo_put_31 rfl (Nat.le_refl _) (Nat.le_refl _) ?_
        exact ⟨fx_r (by repeat (first | omega | split)), rfl, by repeat (first | rfl | omega | split)⟩
abbrev mlB (M : Mem) (r f x : Int) : Prop := mBf M r f ∨ ¬ (1 ≤ x ∧ x ≤ M 88 3) ∨ M 90 (12 * M 91 r + 3 * f + 0) = 0 ∨ (¬ M 90 (12 * M 91 r + 3 * f + 1) = 5 ∧ ¬ M 90 (12 * M 91 r + 3 * f + 1) = M 91 x)
abbrev mlN (M : Mem) (r f : Int) : Int := if M 90 (12 * M 91 r + 3 * f + 0) = 2 then M 92 (4 * r + f) else 0
set_option maxHeartbeats 4000000 in
theorem k_Mo_clear (l : Launch) (n : Nat) (M : Mem) (hn : 117 ≤ n) (hB : MB M) (r f : Int) : AF l m_Mo_clear 3 [.inr 88, .inl r, .inl f] n M (some (.inl (if mBf M r f then -1 else 0))) (if mBf M r f then M else up M 92 (4 * r + f) 0) := by
  refine AM_intro (by decide) (Nat.le_of_ble_eq_true rfl) (fun X b0 D hC _ => ?_)
  show AW X b0 D true 0 0 _ n M 0 [some (.inr 88), some (.inl r), some (.inl f)] []
  have hB1 := hB.1
  have hB2 := hB.2.1
  have hB3 := hB.2.2.1
  have hB4 := hB.2.2.2.1
  have hB5 := hB.2.2.2.2.1
  have hB6 := hB.2.2.2.2.2
  have hB4r := hB4 r
  have hB2r := hB2 (M 91 r)
  refine A_ald0 hC d_Mo_clear_0 ?_
  refine A_ild1 hC d_Mo_clear_1 ?_
  refine A_ild2 hC d_Mo_clear_2 ?_
  refine A_VF1 (as := [.inl r, .inl f]) hC d_Mo_clear_3 mv_Mo_badField lk_Mo_109 (by decide) sel_Mo_badField hq_Mo ly_88 (by omega) (k_Mo_badField l n M hn hB r f) rfl rfl (Nat.le_of_ble_eq_true rfl) ⟨Nat.zero_le _, Nat.zero_le _⟩ rfl ?_
  refine A_ifeq (tgt := 11) hC d_Mo_clear_6 (by decide) (fun h6 => ?_) (fun h6 => ?_)
  · refine A_ald0 hC d_Mo_clear_11 ?_
    refine A_getCR (v := 92) hC d_Mo_clear_12 fF_Mo_19 ⟨by decide, rfl⟩ ly_88 (by omega) ⟨rfl, by decide⟩ cv_88_5 ?_
    refine A_iconst hC d_Mo_clear_15 (by decide) ?_
    refine A_ild1 hC d_Mo_clear_16 ?_
    refine A_imul hC d_Mo_clear_17 (by omega) ?_
    refine A_ild2 hC d_Mo_clear_18 ?_
    refine A_iadd hC d_Mo_clear_19 (by omega) ?_
    refine A_iconst hC d_Mo_clear_20 (by decide) ?_
    refine A_iast hC d_Mo_clear_21 ly_92 (by omega) (by omega) (fun _ => kk_i _) ?_
    refine A_iconst hC d_Mo_clear_22 (by decide) ?_
    refine A_iret hC d_Mo_clear_23 rfl (Nat.le_refl _) (Nat.le_refl _) ?_
    exact ⟨fx_r (by repeat (first | omega | split)), rfl, by repeat (first | rfl | omega | split)⟩
  · refine A_iconst hC d_Mo_clear_9 (by decide) ?_
    refine A_iret hC d_Mo_clear_10 rfl (Nat.le_refl _) (Nat.le_refl _) ?_
    exact ⟨fx_r (by repeat (first | omega | split)), rfl, by repeat (first | rfl | omega | split)⟩
set_option maxHeartbeats 4000000 in
theorem k_Mo_set (l : Launch) (n : Nat) (M : Mem) (hn : 117 ≤ n) (i v : Int) : AF l m_Mo_set 2 [.inr 88, .inl i, .inl v] n M (some (.inl (if ¬ (0 ≤ i ∧ i ≤ 3) ∨ ¬ (0 ≤ v ∧ v ≤ 1) then -1 else 0))) (if ¬ (0 ≤ i ∧ i ≤ 3) ∨ ¬ (0 ≤ v ∧ v ≤ 1) then M else up M 94 i v) := by
  refine AM_intro (by decide) (Nat.le_of_ble_eq_true rfl) (fun X b0 D hC _ => ?_)
  show AW X b0 D true 0 0 _ n M 0 [some (.inr 88), some (.inl i), some (.inl v)] []
  refine A_ild1 hC d_Mo_set_0 ?_
  refine A_iconst hC d_Mo_set_1 (by decide) ?_
  refine A_iconst hC d_Mo_set_2 (by decide) ?_
  refine A_SF1 (as := [.inl i, .inl 0, .inl 3]) hC d_Mo_set_3 mv_Mo_in lk_Mo_105 (by decide) (k_Mo_in l n M hn i 0 3) rfl rfl (Nat.le_of_ble_eq_true rfl) ⟨Nat.zero_le _, Nat.zero_le _⟩ rfl ?_
  refine A_ifeq (tgt := 18) hC d_Mo_set_6 (by decide) (fun h6 => ?_) (fun h6 => ?_)
  · refine A_iconst hC d_Mo_set_18 (by decide) ?_
    refine A_iret hC d_Mo_set_19 rfl (Nat.le_refl _) (Nat.le_refl _) ?_
    exact ⟨fx_r (by repeat (first | omega | split)), rfl, by repeat (first | rfl | omega | split)⟩
  · refine A_ild2 hC d_Mo_set_9 ?_
    refine A_iconst hC d_Mo_set_10 (by decide) ?_
    refine A_iconst hC d_Mo_set_11 (by decide) ?_
    refine A_SF1 (as := [.inl v, .inl 0, .inl 1]) hC d_Mo_set_12 mv_Mo_in lk_Mo_105 (by decide) (k_Mo_in l n M hn v 0 1) rfl rfl (Nat.le_of_ble_eq_true rfl) ⟨Nat.zero_le _, Nat.zero_le _⟩ rfl ?_
    refine A_ifne (tgt := 20) hC d_Mo_set_15 (by decide) (fun h15 => ?_) (fun h15 => ?_)
    · refine A_ald0 hC d_Mo_set_20 ?_
      refine A_getCR (v := 94) hC d_Mo_set_21 fF_Mo_25 ⟨by decide, rfl⟩ ly_88 (by omega) ⟨rfl, by decide⟩ cv_88_7 ?_
      refine A_ild1 hC d_Mo_set_24 ?_
      refine A_ild2 hC d_Mo_set_25 ?_
      refine A_iast hC d_Mo_set_26 ly_94 (by omega) (by omega) (fun _ => kk_i _) ?_
      refine A_iconst hC d_Mo_set_27 (by decide) ?_
      refine A_iret hC d_Mo_set_28 rfl (Nat.le_refl _) (Nat.le_refl _) ?_
      exact ⟨fx_r (by repeat (first | omega | split)), rfl, by repeat (first | rfl | omega | split)⟩
    · refine A_iconst hC d_Mo_set_18 (by decide) ?_
      refine A_iret hC d_Mo_set_19 rfl (Nat.le_refl _) (Nat.le_refl _) ?_
      exact ⟨fx_r (by repeat (first | omega | split)), rfl, by repeat (first | rfl | omega | split)⟩
set_option maxHeartbeats 4000000 in
theorem k_Mo_fits (l : Launch) (n : Nat) (M : Mem) (hn : 117 ≤ n) (op a b : Int) : AF l m_Mo_fits 2 [.inl op, .inl a, .inl b] n M (some (.inl (if tokP op a b then 1 else 0))) M := by
  refine AM_intro (by decide) (Nat.le_of_ble_eq_true rfl) (fun X b0 D hC _ => ?_)
  show AW X b0 D true 0 0 _ n M 0 [some (.inl op), some (.inl a), some (.inl b)] []
  refine A_ild0 hC d_Mo_fits_0 ?_
  refine A_tsw (td := 111) [40, 40, 65, 73, 80, 104] hC d_Mo_fits_1 (by decide) (by decide) (by decide) ⟨fun h1 => ?_, fun h1 => ?_, fun h1 => ?_, fun h1 => ?_, fun h1 => ?_, fun h1 => ?_, trivial⟩ (fun h1 => ?_)
  · refine A_ild1 hC d_Mo_fits_40 ?_
    refine A_iconst hC d_Mo_fits_41 (by decide) ?_
    refine A_bipush hC d_Mo_fits_42 (by decide) (by decide) ?_
    refine A_SF1 (as := [.inl a, .inl 0, .inl 9]) hC d_Mo_fits_44 mv_Mo_in lk_Mo_105 (by decide) (k_Mo_in l n M hn a 0 9) rfl rfl (Nat.le_of_ble_eq_true rfl) ⟨Nat.zero_le _, Nat.zero_le _⟩ rfl ?_
    refine A_ifeq (tgt := 63) hC d_Mo_fits_47 (by decide) (fun h47 => ?_) (fun h47 => ?_)
    · refine A_iconst hC d_Mo_fits_63 (by decide) ?_
      refine A_zret hC d_Mo_fits_64 rfl (Nat.le_refl _) (Nat.le_refl _) (by first | decide | omega) ?_
      exact ⟨fx_r (by split <;> omega), rfl, rfl⟩
    · refine A_ild2 hC d_Mo_fits_50 ?_
      refine A_iconst hC d_Mo_fits_51 (by decide) ?_
      refine A_iconst hC d_Mo_fits_52 (by decide) ?_
      refine A_SF1 (as := [.inl b, .inl 0, .inl 3]) hC d_Mo_fits_53 mv_Mo_in lk_Mo_105 (by decide) (k_Mo_in l n M hn b 0 3) rfl rfl (Nat.le_of_ble_eq_true rfl) ⟨Nat.zero_le _, Nat.zero_le _⟩ rfl ?_
      refine A_ifeq (tgt := 63) hC d_Mo_fits_56 (by decide) (fun h56 => ?_) (fun h56 => ?_)
      · refine A_iconst hC d_Mo_fits_63 (by decide) ?_
        refine A_zret hC d_Mo_fits_64 rfl (Nat.le_refl _) (Nat.le_refl _) (by first | decide | omega) ?_
        exact ⟨fx_r (by split <;> omega), rfl, rfl⟩
      · refine A_iconst hC d_Mo_fits_59 (by decide) ?_
        refine A_goto (tgt := 64) hC d_Mo_fits_60 (by decide) ?_
        refine A_zret hC d_Mo_fits_64 rfl (Nat.le_refl _) (Nat.le_refl _) (by first | decide | omega) ?_
        exact ⟨fx_r (by split <;> omega), rfl, rfl⟩
  · refine A_ild1 hC d_Mo_fits_40 ?_
    refine A_iconst hC d_Mo_fits_41 (by decide) ?_
    refine A_bipush hC d_Mo_fits_42 (by decide) (by decide) ?_
    refine A_SF1 (as := [.inl a, .inl 0, .inl 9]) hC d_Mo_fits_44 mv_Mo_in lk_Mo_105 (by decide) (k_Mo_in l n M hn a 0 9) rfl rfl (Nat.le_of_ble_eq_true rfl) ⟨Nat.zero_le _, Nat.zero_le _⟩ rfl ?_
    refine A_ifeq (tgt := 63) hC d_Mo_fits_47 (by decide) (fun h47 => ?_) (fun h47 => ?_)
    · refine A_iconst hC d_Mo_fits_63 (by decide) ?_
      refine A_zret hC d_Mo_fits_64 rfl (Nat.le_refl _) (Nat.le_refl _) (by first | decide | omega) ?_
      exact ⟨fx_r (by split <;> omega), rfl, rfl⟩
    · refine A_ild2 hC d_Mo_fits_50 ?_
      refine A_iconst hC d_Mo_fits_51 (by decide) ?_
      refine A_iconst hC d_Mo_fits_52 (by decide) ?_
      refine A_SF1 (as := [.inl b, .inl 0, .inl 3]) hC d_Mo_fits_53 mv_Mo_in lk_Mo_105 (by decide) (k_Mo_in l n M hn b 0 3) rfl rfl (Nat.le_of_ble_eq_true rfl) ⟨Nat.zero_le _, Nat.zero_le _⟩ rfl ?_
      refine A_ifeq (tgt := 63) hC d_Mo_fits_56 (by decide) (fun h56 => ?_) (fun h56 => ?_)
      · refine A_iconst hC d_Mo_fits_63 (by decide) ?_
        refine A_zret hC d_Mo_fits_64 rfl (Nat.le_refl _) (Nat.le_refl _) (by first | decide | omega) ?_
        exact ⟨fx_r (by split <;> omega), rfl, rfl⟩
      · refine A_iconst hC d_Mo_fits_59 (by decide) ?_
        refine A_goto (tgt := 64) hC d_Mo_fits_60 (by decide) ?_
        refine A_zret hC d_Mo_fits_64 rfl (Nat.le_refl _) (Nat.le_refl _) (by first | decide | omega) ?_
        exact ⟨fx_r (by split <;> omega), rfl, rfl⟩
  · refine A_ild1 hC d_Mo_fits_65 ?_
    refine A_iconst hC d_Mo_fits_66 (by decide) ?_
    refine A_bipush hC d_Mo_fits_67 (by decide) (by decide) ?_
    refine A_SF1 (as := [.inl a, .inl 0, .inl 9]) hC d_Mo_fits_69 mv_Mo_in lk_Mo_105 (by decide) (k_Mo_in l n M hn a 0 9) rfl rfl (Nat.le_of_ble_eq_true rfl) ⟨Nat.zero_le _, Nat.zero_le _⟩ rfl ?_
    refine A_zret hC d_Mo_fits_72 rfl (Nat.le_refl _) (Nat.le_refl _) (by first | decide | omega) ?_
    exact ⟨fx_r (by split <;> omega), rfl, rfl⟩
  · refine A_ild1 hC d_Mo_fits_73 ?_
    refine A_iconst hC d_Mo_fits_74 (by decide) ?_
    refine A_iconst hC d_Mo_fits_75 (by decide) ?_
    refine A_SF1 (as := [.inl a, .inl 0, .inl 4]) hC d_Mo_fits_76 mv_Mo_in lk_Mo_105 (by decide) (k_Mo_in l n M hn a 0 4) rfl rfl (Nat.le_of_ble_eq_true rfl) ⟨Nat.zero_le _, Nat.zero_le _⟩ rfl ?_
    refine A_zret hC d_Mo_fits_79 rfl (Nat.le_refl _) (Nat.le_refl _) (by first | decide | omega) ?_
    exact ⟨fx_r (by split <;> omega), rfl, rfl⟩
  · refine A_ild1 hC d_Mo_fits_80 ?_
    refine A_iconst hC d_Mo_fits_81 (by decide) ?_
    refine A_iconst hC d_Mo_fits_82 (by decide) ?_
    refine A_SF1 (as := [.inl a, .inl 0, .inl 3]) hC d_Mo_fits_83 mv_Mo_in lk_Mo_105 (by decide) (k_Mo_in l n M hn a 0 3) rfl rfl (Nat.le_of_ble_eq_true rfl) ⟨Nat.zero_le _, Nat.zero_le _⟩ rfl ?_
    refine A_ifeq (tgt := 102) hC d_Mo_fits_86 (by decide) (fun h86 => ?_) (fun h86 => ?_)
    · refine A_iconst hC d_Mo_fits_102 (by decide) ?_
      refine A_zret hC d_Mo_fits_103 rfl (Nat.le_refl _) (Nat.le_refl _) (by first | decide | omega) ?_
      exact ⟨fx_r (by split <;> omega), rfl, rfl⟩
    · refine A_ild2 hC d_Mo_fits_89 ?_
      refine A_iconst hC d_Mo_fits_90 (by decide) ?_
      refine A_iconst hC d_Mo_fits_91 (by decide) ?_
      refine A_SF1 (as := [.inl b, .inl 0, .inl 1]) hC d_Mo_fits_92 mv_Mo_in lk_Mo_105 (by decide) (k_Mo_in l n M hn b 0 1) rfl rfl (Nat.le_of_ble_eq_true rfl) ⟨Nat.zero_le _, Nat.zero_le _⟩ rfl ?_
      refine A_ifeq (tgt := 102) hC d_Mo_fits_95 (by decide) (fun h95 => ?_) (fun h95 => ?_)
      · refine A_iconst hC d_Mo_fits_102 (by decide) ?_
        refine A_zret hC d_Mo_fits_103 rfl (Nat.le_refl _) (Nat.le_refl _) (by first | decide | omega) ?_
        exact ⟨fx_r (by split <;> omega), rfl, rfl⟩
      · refine A_iconst hC d_Mo_fits_98 (by decide) ?_
        refine A_goto (tgt := 103) hC d_Mo_fits_99 (by decide) ?_
        refine A_zret hC d_Mo_fits_103 rfl (Nat.le_refl _) (Nat.le_refl _) (by first | decide | omega) ?_
        exact ⟨fx_r (by split <;> omega), rfl, rfl⟩
  · refine A_ild1 hC d_Mo_fits_104 ?_
    refine A_iconst hC d_Mo_fits_105 (by decide) ?_
    refine A_iconst hC d_Mo_fits_106 (by decide) ?_
    refine A_SF1 (as := [.inl a, .inl 1, .inl 3]) hC d_Mo_fits_107 mv_Mo_in lk_Mo_105 (by decide) (k_Mo_in l n M hn a 1 3) rfl rfl (Nat.le_of_ble_eq_true rfl) ⟨Nat.zero_le _, Nat.zero_le _⟩ rfl ?_
    refine A_zret hC d_Mo_fits_110 rfl (Nat.le_refl _) (Nat.le_refl _) (by first | decide | omega) ?_
    exact ⟨fx_r (by split <;> omega), rfl, rfl⟩
  · refine A_ild0 hC d_Mo_fits_111 ?_
    refine A_bipush hC d_Mo_fits_112 (by decide) (by decide) ?_
    refine A_icmpne (tgt := 121) hC d_Mo_fits_114 (by decide) (fun h114 => ?_) (fun h114 => ?_)
    · refine A_iconst hC d_Mo_fits_121 (by decide) ?_
      refine A_zret hC d_Mo_fits_122 rfl (Nat.le_refl _) (Nat.le_refl _) (by first | decide | omega) ?_
      exact ⟨fx_r (by split <;> omega), rfl, rfl⟩
    · refine A_iconst hC d_Mo_fits_117 (by decide) ?_
      refine A_goto (tgt := 122) hC d_Mo_fits_118 (by decide) ?_
      refine A_zret hC d_Mo_fits_122 rfl (Nat.le_refl _) (Nat.le_refl _) (by first | decide | omega) ?_
      exact ⟨fx_r (by split <;> omega), rfl, rfl⟩
set_option maxHeartbeats 4000000 in
theorem k_Mo_token (l : Launch) (n : Nat) (M : Mem) (hn : 117 ≤ n) (hB : MB M) (t o a b : Int) : AF l m_Mo_token 3 [.inr 88, .inl t, .inl o, .inl a, .inl b] n M (some (.inl (if ¬ (0 ≤ t ∧ t ≤ 3) ∨ ¬ tokP o a b then -1 else if M 95 t = 16 then -2 else M 95 t + 1))) (if ¬ (0 ≤ t ∧ t ≤ 3) ∨ ¬ tokP o a b then M else if M 95 t = 16 then M else up (up (up (up M 96 (16 * t + M 95 t) o) 97 (16 * t + M 95 t) a) 98 (16 * t + M 95 t) b) 95 t (M 95 t + 1)) := by
  refine AM_intro (by decide) (Nat.le_of_ble_eq_true rfl) (fun X b0 D hC _ => ?_)
  show AW X b0 D true 0 0 _ n M 0 [some (.inr 88), some (.inl t), some (.inl o), some (.inl a), some (.inl b), none] []
  have hB1 := hB.1
  have hB2 := hB.2.1
  have hB3 := hB.2.2.1
  have hB4 := hB.2.2.2.1
  have hB5 := hB.2.2.2.2.1
  have hB6 := hB.2.2.2.2.2
  have hB6t := hB6 t
  refine A_ild1 hC d_Mo_token_0 ?_
  refine A_iconst hC d_Mo_token_1 (by decide) ?_
  refine A_iconst hC d_Mo_token_2 (by decide) ?_
  refine A_SF1 (as := [.inl t, .inl 0, .inl 3]) hC d_Mo_token_3 mv_Mo_in lk_Mo_105 (by decide) (k_Mo_in l n M hn t 0 3) rfl rfl (Nat.le_of_ble_eq_true rfl) ⟨Nat.zero_le _, Nat.zero_le _⟩ rfl ?_
  refine A_ifeq (tgt := 19) hC d_Mo_token_6 (by decide) (fun h6 => ?_) (fun h6 => ?_)
  · refine A_iconst hC d_Mo_token_19 (by decide) ?_
    refine A_iret hC d_Mo_token_20 rfl (Nat.le_refl _) (Nat.le_refl _) ?_
    exact ⟨fx_r (by repeat (first | omega | split)), rfl, by repeat (first | rfl | omega | split)⟩
  · refine A_ild2 hC d_Mo_token_9 ?_
    refine A_ild3 hC d_Mo_token_10 ?_
    refine A_ild4 hC d_Mo_token_11 ?_
    refine A_SF1 (as := [.inl o, .inl a, .inl b]) hC d_Mo_token_13 mv_Mo_fits lk_Mo_117 (by decide) (k_Mo_fits l n M hn o a b) rfl rfl (Nat.le_of_ble_eq_true rfl) ⟨Nat.zero_le _, Nat.zero_le _⟩ rfl ?_
    refine A_ifne (tgt := 21) hC d_Mo_token_16 (by decide) (fun h16 => ?_) (fun h16 => ?_)
    · refine A_ald0 hC d_Mo_token_21 ?_
      refine A_getCR (v := 95) hC d_Mo_token_22 fF_Mo_28 ⟨by decide, rfl⟩ ly_88 (by omega) ⟨rfl, by decide⟩ cv_88_8 ?_
      refine A_ild1 hC d_Mo_token_25 ?_
      refine A_iald hC d_Mo_token_26 ly_95 (by omega) (by omega) ?_
      refine A_bipush hC d_Mo_token_27 (by decide) (by decide) ?_
      refine A_icmpne (tgt := 35) hC d_Mo_token_29 (by decide) (fun h29 => ?_) (fun h29 => ?_)
      · refine A_bipush hC d_Mo_token_35 (by decide) (by decide) ?_
        refine A_ild1 hC d_Mo_token_37 ?_
        refine A_imul hC d_Mo_token_38 (by omega) ?_
        refine A_ald0 hC d_Mo_token_39 ?_
        refine A_getCR (v := 95) hC d_Mo_token_40 fF_Mo_28 ⟨by decide, rfl⟩ ly_88 (by omega) ⟨rfl, by decide⟩ cv_88_8 ?_
        refine A_ild1 hC d_Mo_token_43 ?_
        refine A_iald hC d_Mo_token_44 ly_95 (by omega) (by omega) ?_
        refine A_iadd hC d_Mo_token_45 (by omega) ?_
        refine A_ist5 hC d_Mo_token_46 ?_
        refine A_ald0 hC d_Mo_token_48 ?_
        refine A_getCR (v := 96) hC d_Mo_token_49 fF_Mo_31 ⟨by decide, rfl⟩ ly_88 (by omega) ⟨rfl, by decide⟩ cv_88_9 ?_
        refine A_ild5 hC d_Mo_token_52 ?_
        refine A_ild2 hC d_Mo_token_54 ?_
        refine A_iast hC d_Mo_token_55 ly_96 (by omega) (by omega) (fun _ => kk_i _) ?_
        refine A_ald0 hC d_Mo_token_56 ?_
        refine A_getCR (v := 97) hC d_Mo_token_57 fF_Mo_34 ⟨by decide, rfl⟩ ly_88 (by omega) ⟨rfl, by decide⟩ cv_88_10 ?_
        refine A_ild5 hC d_Mo_token_60 ?_
        refine A_ild3 hC d_Mo_token_62 ?_
        refine A_iast hC d_Mo_token_63 ly_97 (by omega) (by omega) (fun _ => kk_i _) ?_
        refine A_ald0 hC d_Mo_token_64 ?_
        refine A_getCR (v := 98) hC d_Mo_token_65 fF_Mo_37 ⟨by decide, rfl⟩ ly_88 (by omega) ⟨rfl, by decide⟩ cv_88_11 ?_
        refine A_ild5 hC d_Mo_token_68 ?_
        refine A_ild4 hC d_Mo_token_70 ?_
        refine A_iast hC d_Mo_token_72 ly_98 (by omega) (by omega) (fun _ => kk_i _) ?_
        refine A_ald0 hC d_Mo_token_73 ?_
        refine A_getCR (v := 95) hC d_Mo_token_74 fF_Mo_28 ⟨by decide, rfl⟩ ly_88 (by omega) ⟨rfl, by decide⟩ cv_88_8 ?_
        refine A_ild1 hC d_Mo_token_77 ?_
        refine A_dup2 hC d_Mo_token_78 ?_
        refine A_ialdE (x := M 95 t) hC d_Mo_token_79 ly_95 (by omega) (by omega) (by rw [up_nc (c := 98) (c' := 95) (by decide), up_nc (c := 97) (c' := 95) (by decide), up_nc (c := 96) (c' := 95) (by decide)]) ?_
        refine A_iconst hC d_Mo_token_80 (by decide) ?_
        refine A_iadd hC d_Mo_token_81 (by omega) ?_
        refine A_iast hC d_Mo_token_82 ly_95 (by omega) (by omega) (fun _ => kk_i _) ?_
        refine A_ald0 hC d_Mo_token_83 ?_
        refine A_getCR (v := 95) hC d_Mo_token_84 fF_Mo_28 ⟨by decide, rfl⟩ ly_88 (by omega) ⟨rfl, by decide⟩ cv_88_8 ?_
        refine A_ild1 hC d_Mo_token_87 ?_
        refine A_ialdE (x := (M 95 t) + 1) hC d_Mo_token_88 ly_95 (by omega) (by omega) (by rw [up_eq]) ?_
        refine A_iret hC d_Mo_token_89 rfl (Nat.le_refl _) (Nat.le_refl _) ?_
        exact ⟨fx_r (by repeat (first | omega | split)), rfl, by repeat (first | rfl | omega | split)⟩
      · refine A_bipush hC d_Mo_token_32 (by decide) (by decide) ?_
        refine A_iret hC d_Mo_token_34 rfl (Nat.le_refl _) (Nat.le_refl _) ?_
        exact ⟨fx_r (by repeat (first | omega | split)), rfl, by repeat (first | rfl | omega | split)⟩
    · refine A_iconst hC d_Mo_token_19 (by decide) ?_
      refine A_iret hC d_Mo_token_20 rfl (Nat.le_refl _) (Nat.le_refl _) ?_
      exact ⟨fx_r (by repeat (first | omega | split)), rfl, by repeat (first | rfl | omega | split)⟩
set_option maxHeartbeats 4000000 in
theorem k_Mo_wipe (l : Launch) (n : Nat) (M : Mem) (hn : 117 ≤ n) (t : Int) : AF l m_Mo_wipe 2 [.inr 88, .inl t] n M (some (.inl (if ¬ (0 ≤ t ∧ t ≤ 3) then -1 else M 95 t))) (if ¬ (0 ≤ t ∧ t ≤ 3) then M else up M 95 t 0) := by
  refine AM_intro (by decide) (Nat.le_of_ble_eq_true rfl) (fun X b0 D hC _ => ?_)
  show AW X b0 D true 0 0 _ n M 0 [some (.inr 88), some (.inl t), none] []
  refine A_ild1 hC d_Mo_wipe_0 ?_
  refine A_iconst hC d_Mo_wipe_1 (by decide) ?_
  refine A_iconst hC d_Mo_wipe_2 (by decide) ?_
  refine A_SF1 (as := [.inl t, .inl 0, .inl 3]) hC d_Mo_wipe_3 mv_Mo_in lk_Mo_105 (by decide) (k_Mo_in l n M hn t 0 3) rfl rfl (Nat.le_of_ble_eq_true rfl) ⟨Nat.zero_le _, Nat.zero_le _⟩ rfl ?_
  refine A_ifne (tgt := 11) hC d_Mo_wipe_6 (by decide) (fun h6 => ?_) (fun h6 => ?_)
  · refine A_ald0 hC d_Mo_wipe_11 ?_
    refine A_getCR (v := 95) hC d_Mo_wipe_12 fF_Mo_28 ⟨by decide, rfl⟩ ly_88 (by omega) ⟨rfl, by decide⟩ cv_88_8 ?_
    refine A_ild1 hC d_Mo_wipe_15 ?_
    refine A_iald hC d_Mo_wipe_16 ly_95 (by omega) (by omega) ?_
    refine A_ist2 hC d_Mo_wipe_17 ?_
    refine A_ald0 hC d_Mo_wipe_18 ?_
    refine A_getCR (v := 95) hC d_Mo_wipe_19 fF_Mo_28 ⟨by decide, rfl⟩ ly_88 (by omega) ⟨rfl, by decide⟩ cv_88_8 ?_
    refine A_ild1 hC d_Mo_wipe_22 ?_
    refine A_iconst hC d_Mo_wipe_23 (by decide) ?_
    refine A_iast hC d_Mo_wipe_24 ly_95 (by omega) (by omega) (fun _ => kk_i _) ?_
    refine A_ild2 hC d_Mo_wipe_25 ?_
    refine A_iret hC d_Mo_wipe_26 rfl (Nat.le_refl _) (Nat.le_refl _) ?_
    exact ⟨fx_r (by repeat (first | omega | split)), rfl, by repeat (first | rfl | omega | split)⟩
  · refine A_iconst hC d_Mo_wipe_9 (by decide) ?_
    refine A_iret hC d_Mo_wipe_10 rfl (Nat.le_refl _) (Nat.le_refl _) ?_
    exact ⟨fx_r (by repeat (first | omega | split)), rfl, by repeat (first | rfl | omega | split)⟩
set_option maxHeartbeats 4000000 in
theorem k_Mo_opens (l : Launch) (n : Nat) (M : Mem) (hn : 117 ≤ n) (i : Int) (hi : 0 ≤ i ∧ i ≤ 63) : AF l m_Mo_opens 1 [.inr 88, .inl i] n M (some (.inl (if opnP (M 96 i) then 1 else 0))) M := by
  refine AM_intro (by decide) (Nat.le_of_ble_eq_true rfl) (fun X b0 D hC _ => ?_)
  show AW X b0 D true 0 0 _ n M 0 [some (.inr 88), some (.inl i)] []
  refine A_ald0 hC d_Mo_opens_0 ?_
  refine A_getCR (v := 96) hC d_Mo_opens_1 fF_Mo_31 ⟨by decide, rfl⟩ ly_88 (by omega) ⟨rfl, by decide⟩ cv_88_9 ?_
  refine A_ild1 hC d_Mo_opens_4 ?_
  refine A_iald hC d_Mo_opens_5 ly_96 (by omega) (by omega) ?_
  refine A_iconst hC d_Mo_opens_6 (by decide) ?_
  refine A_icmpeq (tgt := 30) hC d_Mo_opens_7 (by decide) (fun h7 => ?_) (fun h7 => ?_)
  · refine A_iconst hC d_Mo_opens_30 (by decide) ?_
    refine A_goto (tgt := 35) hC d_Mo_opens_31 (by decide) ?_
    refine A_zret hC d_Mo_opens_35 rfl (Nat.le_refl _) (Nat.le_refl _) (by first | decide | omega) ?_
    exact ⟨fx_r (by split <;> omega), rfl, rfl⟩
  · refine A_ald0 hC d_Mo_opens_10 ?_
    refine A_getCR (v := 96) hC d_Mo_opens_11 fF_Mo_31 ⟨by decide, rfl⟩ ly_88 (by omega) ⟨rfl, by decide⟩ cv_88_9 ?_
    refine A_ild1 hC d_Mo_opens_14 ?_
    refine A_iald hC d_Mo_opens_15 ly_96 (by omega) (by omega) ?_
    refine A_iconst hC d_Mo_opens_16 (by decide) ?_
    refine A_icmpeq (tgt := 30) hC d_Mo_opens_17 (by decide) (fun h17 => ?_) (fun h17 => ?_)
    · refine A_iconst hC d_Mo_opens_30 (by decide) ?_
      refine A_goto (tgt := 35) hC d_Mo_opens_31 (by decide) ?_
      refine A_zret hC d_Mo_opens_35 rfl (Nat.le_refl _) (Nat.le_refl _) (by first | decide | omega) ?_
      exact ⟨fx_r (by split <;> omega), rfl, rfl⟩
    · refine A_ald0 hC d_Mo_opens_20 ?_
      refine A_getCR (v := 96) hC d_Mo_opens_21 fF_Mo_31 ⟨by decide, rfl⟩ ly_88 (by omega) ⟨rfl, by decide⟩ cv_88_9 ?_
      refine A_ild1 hC d_Mo_opens_24 ?_
      refine A_iald hC d_Mo_opens_25 ly_96 (by omega) (by omega) ?_
      refine A_iconst hC d_Mo_opens_26 (by decide) ?_
      refine A_icmpne (tgt := 34) hC d_Mo_opens_27 (by decide) (fun h27 => ?_) (fun h27 => ?_)
      · refine A_iconst hC d_Mo_opens_34 (by decide) ?_
        refine A_zret hC d_Mo_opens_35 rfl (Nat.le_refl _) (Nat.le_refl _) (by first | decide | omega) ?_
        exact ⟨fx_r (by split <;> omega), rfl, rfl⟩
      · refine A_iconst hC d_Mo_opens_30 (by decide) ?_
        refine A_goto (tgt := 35) hC d_Mo_opens_31 (by decide) ?_
        refine A_zret hC d_Mo_opens_35 rfl (Nat.le_refl _) (Nat.le_refl _) (by first | decide | omega) ?_
        exact ⟨fx_r (by split <;> omega), rfl, rfl⟩
set_option maxHeartbeats 4000000 in
theorem k_Mo_place (l : Launch) (n : Nat) (M : Mem) (hn : 117 ≤ n) : AF l m_Mo_place 1 [.inr 88] n M (some (.inl (M 88 12))) M := by
  refine AM_intro (by decide) (Nat.le_of_ble_eq_true rfl) (fun X b0 D hC _ => ?_)
  show AW X b0 D true 0 0 _ n M 0 [some (.inr 88)] []
  refine A_ald0 hC d_Mo_place_0 ?_
  refine A_getI (kI := 12) hC d_Mo_place_1 fF_Mo_40 ⟨by decide, rfl⟩ rfl ly_88 (by omega) ?_
  refine A_iret hC d_Mo_place_4 rfl (Nat.le_refl _) (Nat.le_refl _) ?_
  exact ⟨rfl, rfl, rfl⟩
set_option maxHeartbeats 4000000 in
theorem k_Mo_code (l : Launch) (n : Nat) (M : Mem) (hn : 117 ≤ n) (hc : 0 ≤ M 88 31 ∧ M 88 31 ≤ 130) (i : Int) : AF l m_Mo_code 2 [.inr 88, .inl i] n M (some (.inl (if 0 ≤ i ∧ i ≤ M 88 31 - 1 then M 114 i else -1))) M := by
  refine AM_intro (by decide) (Nat.le_of_ble_eq_true rfl) (fun X b0 D hC _ => ?_)
  show AW X b0 D true 0 0 _ n M 0 [some (.inr 88), some (.inl i)] []
  refine A_ild1 hC d_Mo_code_0 ?_
  refine A_iconst hC d_Mo_code_1 (by decide) ?_
  refine A_ald0 hC d_Mo_code_2 ?_
  refine A_getI (kI := 31) hC d_Mo_code_3 fF_Mo_160 ⟨by decide, rfl⟩ rfl ly_88 (by omega) ?_
  refine A_iconst hC d_Mo_code_6 (by decide) ?_
  refine A_isub hC d_Mo_code_7 (by omega) ?_
  refine A_SF1 (as := [.inl i, .inl 0, .inl ((M 88 31) - 1)]) hC d_Mo_code_8 mv_Mo_in lk_Mo_105 (by decide) (k_Mo_in l n M hn i 0 ((M 88 31) - 1)) rfl rfl (Nat.le_of_ble_eq_true rfl) ⟨Nat.zero_le _, Nat.zero_le _⟩ rfl ?_
  refine A_ifeq (tgt := 23) hC d_Mo_code_11 (by decide) (fun h11 => ?_) (fun h11 => ?_)
  · refine A_iconst hC d_Mo_code_23 (by decide) ?_
    refine A_iret hC d_Mo_code_24 rfl (Nat.le_refl _) (Nat.le_refl _) ?_
    exact ⟨fx_r (by repeat (first | omega | split)), rfl, by repeat (first | rfl | omega | split)⟩
  · refine A_ald0 hC d_Mo_code_14 ?_
    refine A_getCR (v := 114) hC d_Mo_code_15 fF_Mo_90 ⟨by decide, rfl⟩ ly_88 (by omega) ⟨rfl, by decide⟩ cv_88_32 ?_
    refine A_ild1 hC d_Mo_code_18 ?_
    refine A_iald hC d_Mo_code_19 ly_114 (by omega) (by omega) ?_
    refine A_goto (tgt := 24) hC d_Mo_code_20 (by decide) ?_
    refine A_iret hC d_Mo_code_24 rfl (Nat.le_refl _) (Nat.le_refl _) ?_
    exact ⟨fx_r (by repeat (first | omega | split)), rfl, by repeat (first | rfl | omega | split)⟩
set_option maxHeartbeats 4000000 in
theorem k_Mo_count (l : Launch) (n : Nat) (M : Mem) (hn : 117 ≤ n) (i : Int) : AF l m_Mo_count 2 [.inr 88, .inl i] n M (some (.inl (if i = 0 then M 88 0 else if i = 1 then M 88 3 else if i = 2 then M 88 31 else if i = 3 then M 88 33 else if 4 ≤ i ∧ i ≤ 7 then M 95 (i - 4) else -1))) M := by
  refine AM_intro (by decide) (Nat.le_of_ble_eq_true rfl) (fun X b0 D hC _ => ?_)
  show AW X b0 D true 0 0 _ n M 0 [some (.inr 88), some (.inl i)] []
  refine A_ild1 hC d_Mo_count_0 ?_
  refine A_iconst hC d_Mo_count_1 (by decide) ?_
  refine A_iconst hC d_Mo_count_2 (by decide) ?_
  refine A_SF1 (as := [.inl i, .inl 0, .inl 1]) hC d_Mo_count_3 mv_Mo_in lk_Mo_105 (by decide) (k_Mo_in l n M hn i 0 1) rfl rfl (Nat.le_of_ble_eq_true rfl) ⟨Nat.zero_le _, Nat.zero_le _⟩ rfl ?_
  refine A_ifeq (tgt := 25) hC d_Mo_count_6 (by decide) (fun h6 => ?_) (fun h6 => ?_)
  · refine A_ild1 hC d_Mo_count_25 ?_
    refine A_iconst hC d_Mo_count_26 (by decide) ?_
    refine A_iconst hC d_Mo_count_27 (by decide) ?_
    refine A_SF1 (as := [.inl i, .inl 2, .inl 3]) hC d_Mo_count_28 mv_Mo_in lk_Mo_105 (by decide) (k_Mo_in l n M hn i 2 3) rfl rfl (Nat.le_of_ble_eq_true rfl) ⟨Nat.zero_le _, Nat.zero_le _⟩ rfl ?_
    refine A_ifeq (tgt := 51) hC d_Mo_count_31 (by decide) (fun h31 => ?_) (fun h31 => ?_)
    · refine A_ild1 hC d_Mo_count_51 ?_
      refine A_iconst hC d_Mo_count_52 (by decide) ?_
      refine A_bipush hC d_Mo_count_53 (by decide) (by decide) ?_
      refine A_SF1 (as := [.inl i, .inl 4, .inl 7]) hC d_Mo_count_55 mv_Mo_in lk_Mo_105 (by decide) (k_Mo_in l n M hn i 4 7) rfl rfl (Nat.le_of_ble_eq_true rfl) ⟨Nat.zero_le _, Nat.zero_le _⟩ rfl ?_
      refine A_ifeq (tgt := 72) hC d_Mo_count_58 (by decide) (fun h58 => ?_) (fun h58 => ?_)
      · refine A_iconst hC d_Mo_count_72 (by decide) ?_
        refine A_iret hC d_Mo_count_73 rfl (Nat.le_refl _) (Nat.le_refl _) ?_
        exact ⟨fx_r (by repeat (first | omega | split)), rfl, by repeat (first | rfl | omega | split)⟩
      · refine A_ald0 hC d_Mo_count_61 ?_
        refine A_getCR (v := 95) hC d_Mo_count_62 fF_Mo_28 ⟨by decide, rfl⟩ ly_88 (by omega) ⟨rfl, by decide⟩ cv_88_8 ?_
        refine A_ild1 hC d_Mo_count_65 ?_
        refine A_iconst hC d_Mo_count_66 (by decide) ?_
        refine A_isub hC d_Mo_count_67 (by omega) ?_
        refine A_iald hC d_Mo_count_68 ly_95 (by omega) (by omega) ?_
        refine A_goto (tgt := 73) hC d_Mo_count_69 (by decide) ?_
        refine A_iret hC d_Mo_count_73 rfl (Nat.le_refl _) (Nat.le_refl _) ?_
        exact ⟨fx_r (by repeat (first | omega | split)), rfl, by repeat (first | rfl | omega | split)⟩
    · refine A_ild1 hC d_Mo_count_34 ?_
      refine A_iconst hC d_Mo_count_35 (by decide) ?_
      refine A_icmpne (tgt := 46) hC d_Mo_count_36 (by decide) (fun h36 => ?_) (fun h36 => ?_)
      · refine A_ald0 hC d_Mo_count_46 ?_
        refine A_getI (kI := 33) hC d_Mo_count_47 fF_Mo_175 ⟨by decide, rfl⟩ rfl ly_88 (by omega) ?_
        refine A_iret hC d_Mo_count_50 rfl (Nat.le_refl _) (Nat.le_refl _) ?_
        exact ⟨fx_r (by repeat (first | omega | split)), rfl, by repeat (first | rfl | omega | split)⟩
      · refine A_ald0 hC d_Mo_count_39 ?_
        refine A_getI (kI := 31) hC d_Mo_count_40 fF_Mo_160 ⟨by decide, rfl⟩ rfl ly_88 (by omega) ?_
        refine A_goto (tgt := 50) hC d_Mo_count_43 (by decide) ?_
        refine A_iret hC d_Mo_count_50 rfl (Nat.le_refl _) (Nat.le_refl _) ?_
        exact ⟨fx_r (by repeat (first | omega | split)), rfl, by repeat (first | rfl | omega | split)⟩
  · refine A_ild1 hC d_Mo_count_9 ?_
    refine A_ifne (tgt := 20) hC d_Mo_count_10 (by decide) (fun h10 => ?_) (fun h10 => ?_)
    · refine A_ald0 hC d_Mo_count_20 ?_
      refine A_getI (kI := 3) hC d_Mo_count_21 fF_Mo_102 ⟨by decide, rfl⟩ rfl ly_88 (by omega) ?_
      refine A_iret hC d_Mo_count_24 rfl (Nat.le_refl _) (Nat.le_refl _) ?_
      exact ⟨fx_r (by repeat (first | omega | split)), rfl, by repeat (first | rfl | omega | split)⟩
    · refine A_ald0 hC d_Mo_count_13 ?_
      refine A_getI (kI := 0) hC d_Mo_count_14 fF_Mo_99 ⟨by decide, rfl⟩ rfl ly_88 (by omega) ?_
      refine A_goto (tgt := 24) hC d_Mo_count_17 (by decide) ?_
      refine A_iret hC d_Mo_count_24 rfl (Nat.le_refl _) (Nat.le_refl _) ?_
      exact ⟨fx_r (by repeat (first | omega | split)), rfl, by repeat (first | rfl | omega | split)⟩
set_option maxHeartbeats 4000000 in
theorem k_Mo_enter (l : Launch) (n : Nat) (M : Mem) (hn : 117 ≤ n) (t b : Int) (ho : 0 ≤ M 88 13 ∧ M 88 13 ≤ 69) : AF l m_Mo_enter 1 [.inr 88, .inl t, .inl b] n M none (up (up (up M 99 (M 88 13) t) 100 (M 88 13) b) 88 13 (M 88 13 + 1)) := by
  refine AM_intro (by decide) (Nat.le_of_ble_eq_true rfl) (fun X b0 D hC _ => ?_)
  show AW X b0 D true 0 0 _ n M 0 [some (.inr 88), some (.inl t), some (.inl b)] []
  refine A_ald0 hC d_Mo_enter_0 ?_
  refine A_getCR (v := 99) hC d_Mo_enter_1 fF_Mo_44 ⟨by decide, rfl⟩ ly_88 (by omega) ⟨rfl, by decide⟩ cv_88_14 ?_
  refine A_ald0 hC d_Mo_enter_4 ?_
  refine A_getI (kI := 13) hC d_Mo_enter_5 fF_Mo_130 ⟨by decide, rfl⟩ rfl ly_88 (by omega) ?_
  refine A_ild1 hC d_Mo_enter_8 ?_
  refine A_iast hC d_Mo_enter_9 ly_99 (by omega) (by omega) (fun _ => kk_i _) ?_
  refine A_ald0 hC d_Mo_enter_10 ?_
  refine A_getCR (v := 100) hC d_Mo_enter_11 fF_Mo_47 ⟨by decide, rfl⟩ ly_88 (by omega) ⟨rfl, by decide⟩ cv_88_15 ?_
  refine A_ald0 hC d_Mo_enter_14 ?_
  refine A_getIE (x := M 88 13) (kI := 13) hC d_Mo_enter_15 fF_Mo_130 ⟨by decide, rfl⟩ rfl ly_88 (by omega) (by rw [up_nc (c := 99) (c' := 88) (by decide)]) ?_
  refine A_ild2 hC d_Mo_enter_18 ?_
  refine A_iast hC d_Mo_enter_19 ly_100 (by omega) (by omega) (fun _ => kk_i _) ?_
  refine A_ald0 hC d_Mo_enter_20 ?_
  refine A_dup hC d_Mo_enter_21 ?_
  refine A_getIE (x := M 88 13) (kI := 13) hC d_Mo_enter_22 fF_Mo_130 ⟨by decide, rfl⟩ rfl ly_88 (by omega) (by rw [up_nc (c := 100) (c' := 88) (by decide), up_nc (c := 99) (c' := 88) (by decide)]) ?_
  refine A_iconst hC d_Mo_enter_25 (by decide) ?_
  refine A_iadd hC d_Mo_enter_26 (by omega) ?_
  refine A_putI (kI := 13) hC d_Mo_enter_27 fP_Mo_130 ⟨by decide, rfl⟩ rfl ly_88 (by omega) (fun _ => by decide) ?_
  refine A_vret hC d_Mo_enter_30 rfl (Nat.le_refl _) (Nat.le_refl _) ?_
  exact ⟨rfl, rfl, rfl⟩
set_option maxHeartbeats 4000000 in
theorem k_Mo_addSet (l : Launch) (n : Nat) (M : Mem) (hn : 117 ≤ n) (j e i : Int) (hj : 0 ≤ j ∧ j ≤ 39) (hs : 0 ≤ M 107 j ∧ M 107 j ≤ 63) : AF l m_Mo_addSet 1 [.inr 88, .inl j, .inl e, .inl i] n M none (up (up (up M 108 (64 * j + M 107 j) i) 109 (64 * j + M 107 j) e) 107 j (M 107 j + 1)) := by
  refine AM_intro (by decide) (Nat.le_of_ble_eq_true rfl) (fun X b0 D hC _ => ?_)
  show AW X b0 D true 0 0 _ n M 0 [some (.inr 88), some (.inl j), some (.inl e), some (.inl i)] []
  refine A_ald0 hC d_Mo_addSet_0 ?_
  refine A_getCR (v := 108) hC d_Mo_addSet_1 fF_Mo_72 ⟨by decide, rfl⟩ ly_88 (by omega) ⟨rfl, by decide⟩ cv_88_24 ?_
  refine A_bipush hC d_Mo_addSet_4 (by decide) (by decide) ?_
  refine A_ild1 hC d_Mo_addSet_6 ?_
  refine A_imul hC d_Mo_addSet_7 (by omega) ?_
  refine A_ald0 hC d_Mo_addSet_8 ?_
  refine A_getCR (v := 107) hC d_Mo_addSet_9 fF_Mo_69 ⟨by decide, rfl⟩ ly_88 (by omega) ⟨rfl, by decide⟩ cv_88_23 ?_
  refine A_ild1 hC d_Mo_addSet_12 ?_
  refine A_iald hC d_Mo_addSet_13 ly_107 (by omega) (by omega) ?_
  refine A_iadd hC d_Mo_addSet_14 (by omega) ?_
  refine A_ild3 hC d_Mo_addSet_15 ?_
  refine A_iast hC d_Mo_addSet_16 ly_108 (by omega) (by omega) (fun _ => kk_i _) ?_
  refine A_ald0 hC d_Mo_addSet_17 ?_
  refine A_getCR (v := 109) hC d_Mo_addSet_18 fF_Mo_75 ⟨by decide, rfl⟩ ly_88 (by omega) ⟨rfl, by decide⟩ cv_88_25 ?_
  refine A_bipush hC d_Mo_addSet_21 (by decide) (by decide) ?_
  refine A_ild1 hC d_Mo_addSet_23 ?_
  refine A_imul hC d_Mo_addSet_24 (by omega) ?_
  refine A_ald0 hC d_Mo_addSet_25 ?_
  refine A_getCR (v := 107) hC d_Mo_addSet_26 fF_Mo_69 ⟨by decide, rfl⟩ ly_88 (by omega) ⟨rfl, by decide⟩ cv_88_23 ?_
  refine A_ild1 hC d_Mo_addSet_29 ?_
  refine A_ialdE (x := M 107 j) hC d_Mo_addSet_30 ly_107 (by omega) (by omega) (by rw [up_nc (c := 108) (c' := 107) (by decide)]) ?_
  refine A_iadd hC d_Mo_addSet_31 (by omega) ?_
  refine A_ild2 hC d_Mo_addSet_32 ?_
  refine A_iast hC d_Mo_addSet_33 ly_109 (by omega) (by omega) (fun _ => kk_i _) ?_
  refine A_ald0 hC d_Mo_addSet_34 ?_
  refine A_getCR (v := 107) hC d_Mo_addSet_35 fF_Mo_69 ⟨by decide, rfl⟩ ly_88 (by omega) ⟨rfl, by decide⟩ cv_88_23 ?_
  refine A_ild1 hC d_Mo_addSet_38 ?_
  refine A_dup2 hC d_Mo_addSet_39 ?_
  refine A_ialdE (x := M 107 j) hC d_Mo_addSet_40 ly_107 (by omega) (by omega) (by rw [up_nc (c := 109) (c' := 107) (by decide), up_nc (c := 108) (c' := 107) (by decide)]) ?_
  refine A_iconst hC d_Mo_addSet_41 (by decide) ?_
  refine A_iadd hC d_Mo_addSet_42 (by omega) ?_
  refine A_iast hC d_Mo_addSet_43 ly_107 (by omega) (by omega) (fun _ => kk_i _) ?_
  refine A_vret hC d_Mo_addSet_44 rfl (Nat.le_refl _) (Nat.le_refl _) ?_
  exact ⟨rfl, rfl, rfl⟩
def mSay (M : Mem) (c : Int) : Mem := if M 88 30 = 120 then M else up (up (up M 88 30 (M 88 30 + 1)) 114 (M 88 31) c) 88 31 (M 88 31 + 1)
set_option maxHeartbeats 4000000 in
theorem k_Mo_say (l : Launch) (n : Nat) (M : Mem) (hn : 117 ≤ n) (c : Int) (hc : 0 ≤ M 88 31 ∧ M 88 31 ≤ M 88 30 ∧ M 88 30 ≤ 120) : AF l m_Mo_say 1 [.inr 88, .inl c] n M (some (.inl (if M 88 30 = 120 then -5 else 0))) (mSay M c) := by
  refine AM_intro (by decide) (Nat.le_of_ble_eq_true rfl) (fun X b0 D hC _ => ?_)
  show AW X b0 D true 0 0 _ n M 0 [some (.inr 88), some (.inl c)] []
  refine A_ald0 hC d_Mo_say_0 ?_
  refine A_getI (kI := 30) hC d_Mo_say_1 fF_Mo_169 ⟨by decide, rfl⟩ rfl ly_88 (by omega) ?_
  refine A_bipush hC d_Mo_say_4 (by decide) (by decide) ?_
  refine A_icmpne (tgt := 12) hC d_Mo_say_6 (by decide) (fun h6 => ?_) (fun h6 => ?_)
  · refine A_ald0 hC d_Mo_say_12 ?_
    refine A_dup hC d_Mo_say_13 ?_
    refine A_getI (kI := 30) hC d_Mo_say_14 fF_Mo_169 ⟨by decide, rfl⟩ rfl ly_88 (by omega) ?_
    refine A_iconst hC d_Mo_say_17 (by decide) ?_
    refine A_iadd hC d_Mo_say_18 (by omega) ?_
    refine A_putI (kI := 30) hC d_Mo_say_19 fP_Mo_169 ⟨by decide, rfl⟩ rfl ly_88 (by omega) (fun _ => by decide) ?_
    refine A_ald0 hC d_Mo_say_22 ?_
    refine A_getCR (v := 114) hC d_Mo_say_23 fF_Mo_90 ⟨by decide, rfl⟩ ly_88 (by omega) ⟨rfl, by decide⟩ cv_88_32 ?_
    refine A_ald0 hC d_Mo_say_26 ?_
    refine A_getIE (x := M 88 31) (kI := 31) hC d_Mo_say_27 fF_Mo_160 ⟨by decide, rfl⟩ rfl ly_88 (by omega) (by rw [up_nk (k := 30) (k' := 31) (by decide)]) ?_
    refine A_ild1 hC d_Mo_say_30 ?_
    refine A_iast hC d_Mo_say_31 ly_114 (by omega) (by omega) (fun _ => kk_i _) ?_
    refine A_ald0 hC d_Mo_say_32 ?_
    refine A_dup hC d_Mo_say_33 ?_
    refine A_getIE (x := M 88 31) (kI := 31) hC d_Mo_say_34 fF_Mo_160 ⟨by decide, rfl⟩ rfl ly_88 (by omega) (by rw [up_nc (c := 114) (c' := 88) (by decide), up_nk (k := 30) (k' := 31) (by decide)]) ?_
    refine A_iconst hC d_Mo_say_37 (by decide) ?_
    refine A_iadd hC d_Mo_say_38 (by omega) ?_
    refine A_putI (kI := 31) hC d_Mo_say_39 fP_Mo_160 ⟨by decide, rfl⟩ rfl ly_88 (by omega) (fun _ => by decide) ?_
    refine A_iconst hC d_Mo_say_42 (by decide) ?_
    refine A_iret hC d_Mo_say_43 rfl (Nat.le_refl _) (Nat.le_refl _) ?_
    exact ⟨fx_r (by split <;> omega), rfl, by unfold mSay; first | rw [if_pos (by omega)] | rw [if_neg (by omega)]⟩
  · refine A_bipush hC d_Mo_say_9 (by decide) (by decide) ?_
    refine A_iret hC d_Mo_say_11 rfl (Nat.le_refl _) (Nat.le_refl _) ?_
    exact ⟨fx_r (by split <;> omega), rfl, by unfold mSay; first | rw [if_pos (by omega)] | rw [if_neg (by omega)]⟩
set_option maxHeartbeats 4000000 in
theorem k_Mo_entry (l : Launch) (n : Nat) (M : Mem) (hn : 117 ≤ n) (j : Int) (hj : 0 ≤ j ∧ j ≤ 39) (ha : 0 ≤ M 110 j ∧ M 110 j ≤ 10) : AF l m_Mo_entry 1 [.inr 88, .inl j] n M (some (.inl (10 * j + M 110 j))) M := by
  refine AM_intro (by decide) (Nat.le_of_ble_eq_true rfl) (fun X b0 D hC _ => ?_)
  show AW X b0 D true 0 0 _ n M 0 [some (.inr 88), some (.inl j)] []
  refine A_bipush hC d_Mo_entry_0 (by decide) (by decide) ?_
  refine A_ild1 hC d_Mo_entry_2 ?_
  refine A_imul hC d_Mo_entry_3 (by omega) ?_
  refine A_ald0 hC d_Mo_entry_4 ?_
  refine A_getCR (v := 110) hC d_Mo_entry_5 fF_Mo_78 ⟨by decide, rfl⟩ ly_88 (by omega) ⟨rfl, by decide⟩ cv_88_26 ?_
  refine A_ild1 hC d_Mo_entry_8 ?_
  refine A_iald hC d_Mo_entry_9 ly_110 (by omega) (by omega) ?_
  refine A_iadd hC d_Mo_entry_10 (by omega) ?_
  refine A_iret hC d_Mo_entry_11 rfl (Nat.le_refl _) (Nat.le_refl _) ?_
  exact ⟨rfl, rfl, rfl⟩
