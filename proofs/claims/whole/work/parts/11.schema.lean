abbrev tokP (op a b : Int) : Prop := ((op = 0 ∨ op = 1) ∧ (0 ≤ a ∧ a ≤ 9) ∧ 0 ≤ b ∧ b ≤ 3) ∨ (op = 2 ∧ 0 ≤ a ∧ a ≤ 9) ∨ (op = 3 ∧ 0 ≤ a ∧ a ≤ 4) ∨ (op = 4 ∧ (0 ≤ a ∧ a ≤ 3) ∧ 0 ≤ b ∧ b ≤ 1) ∨ (op = 5 ∧ 1 ≤ a ∧ a ≤ 3) ∨ op = 6
abbrev opnP (op : Int) : Prop := op = 1 ∨ op = 3 ∨ op = 4
set_option maxHeartbeats 4000000 in
theorem k_G_isWithin (l : Launch) (n : Nat) (M : Mem) (hn : 117 ≤ n) (x lo hi : Int) : AF l m_G_isWithin 1 [.inl x, .inl lo, .inl hi] n M (some (.inl (if lo ≤ x ∧ x ≤ hi then 1 else 0))) M := by
  refine AM_intro (by decide) (Nat.le_of_ble_eq_true rfl) (fun X b0 D hC _ => ?_)
  show AW X b0 D true 0 0 _ n M 0 [some (.inl x), some (.inl lo), some (.inl hi)] []
  refine A_ild0 hC d_G_isWithin_0 ?_
  refine A_ild1 hC d_G_isWithin_1 ?_
  refine A_icmplt (tgt := 14) hC d_G_isWithin_2 (by decide) (fun h2 => ?_) (fun h2 => ?_)
  · refine A_iconst hC d_G_isWithin_14 (by decide) ?_
    refine A_zret hC d_G_isWithin_15 rfl (Nat.le_refl _) (Nat.le_refl _) (by first | decide | omega) ?_
    exact ⟨fx_r (by split <;> omega), rfl, rfl⟩
  · refine A_ild0 hC d_G_isWithin_5 ?_
    refine A_ild2 hC d_G_isWithin_6 ?_
    refine A_icmpgt (tgt := 14) hC d_G_isWithin_7 (by decide) (fun h7 => ?_) (fun h7 => ?_)
    · refine A_iconst hC d_G_isWithin_14 (by decide) ?_
      refine A_zret hC d_G_isWithin_15 rfl (Nat.le_refl _) (Nat.le_refl _) (by first | decide | omega) ?_
      exact ⟨fx_r (by split <;> omega), rfl, rfl⟩
    · refine A_iconst hC d_G_isWithin_10 (by decide) ?_
      refine A_goto (tgt := 15) hC d_G_isWithin_11 (by decide) ?_
      refine A_zret hC d_G_isWithin_15 rfl (Nat.le_refl _) (Nat.le_refl _) (by first | decide | omega) ?_
      exact ⟨fx_r (by split <;> omega), rfl, rfl⟩
set_option maxHeartbeats 4000000 in
theorem k_G_isTokenInRange (l : Launch) (n : Nat) (M : Mem) (hn : 117 ≤ n) (op a b : Int) : AF l m_G_isTokenInRange 2 [.inl op, .inl a, .inl b] n M (some (.inl (if tokP op a b then 1 else 0))) M := by
  refine AM_intro (by decide) (Nat.le_of_ble_eq_true rfl) (fun X b0 D hC _ => ?_)
  show AW X b0 D true 0 0 _ n M 0 [some (.inl op), some (.inl a), some (.inl b)] []
  refine A_ild0 hC d_G_isTokenInRange_0 ?_
  refine A_tsw (td := 111) [40, 40, 65, 73, 80, 104] hC d_G_isTokenInRange_1 (by decide) (by decide) (by decide) ⟨fun h1 => ?_, fun h1 => ?_, fun h1 => ?_, fun h1 => ?_, fun h1 => ?_, fun h1 => ?_, trivial⟩ (fun h1 => ?_)
  · refine A_ild1 hC d_G_isTokenInRange_40 ?_
    refine A_iconst hC d_G_isTokenInRange_41 (by decide) ?_
    refine A_bipush hC d_G_isTokenInRange_42 (by decide) (by decide) ?_
    refine A_SF1 (as := [.inl a, .inl 0, .inl 9]) hC d_G_isTokenInRange_44 mv_G_isWithin lk_G_72 (by decide) (k_G_isWithin l n M hn a 0 9) rfl rfl (Nat.le_of_ble_eq_true rfl) ⟨Nat.zero_le _, Nat.zero_le _⟩ rfl ?_
    refine A_ifeq (tgt := 63) hC d_G_isTokenInRange_47 (by decide) (fun h47 => ?_) (fun h47 => ?_)
    · refine A_iconst hC d_G_isTokenInRange_63 (by decide) ?_
      refine A_zret hC d_G_isTokenInRange_64 rfl (Nat.le_refl _) (Nat.le_refl _) (by first | decide | omega) ?_
      exact ⟨fx_r (by split <;> omega), rfl, rfl⟩
    · refine A_ild2 hC d_G_isTokenInRange_50 ?_
      refine A_iconst hC d_G_isTokenInRange_51 (by decide) ?_
      refine A_iconst hC d_G_isTokenInRange_52 (by decide) ?_
      refine A_SF1 (as := [.inl b, .inl 0, .inl 3]) hC d_G_isTokenInRange_53 mv_G_isWithin lk_G_72 (by decide) (k_G_isWithin l n M hn b 0 3) rfl rfl (Nat.le_of_ble_eq_true rfl) ⟨Nat.zero_le _, Nat.zero_le _⟩ rfl ?_
      refine A_ifeq (tgt := 63) hC d_G_isTokenInRange_56 (by decide) (fun h56 => ?_) (fun h56 => ?_)
      · refine A_iconst hC d_G_isTokenInRange_63 (by decide) ?_
        refine A_zret hC d_G_isTokenInRange_64 rfl (Nat.le_refl _) (Nat.le_refl _) (by first | decide | omega) ?_
        exact ⟨fx_r (by split <;> omega), rfl, rfl⟩
      · refine A_iconst hC d_G_isTokenInRange_59 (by decide) ?_
        refine A_goto (tgt := 64) hC d_G_isTokenInRange_60 (by decide) ?_
        refine A_zret hC d_G_isTokenInRange_64 rfl (Nat.le_refl _) (Nat.le_refl _) (by first | decide | omega) ?_
        exact ⟨fx_r (by split <;> omega), rfl, rfl⟩
  · refine A_ild1 hC d_G_isTokenInRange_40 ?_
    refine A_iconst hC d_G_isTokenInRange_41 (by decide) ?_
    refine A_bipush hC d_G_isTokenInRange_42 (by decide) (by decide) ?_
    refine A_SF1 (as := [.inl a, .inl 0, .inl 9]) hC d_G_isTokenInRange_44 mv_G_isWithin lk_G_72 (by decide) (k_G_isWithin l n M hn a 0 9) rfl rfl (Nat.le_of_ble_eq_true rfl) ⟨Nat.zero_le _, Nat.zero_le _⟩ rfl ?_
    refine A_ifeq (tgt := 63) hC d_G_isTokenInRange_47 (by decide) (fun h47 => ?_) (fun h47 => ?_)
    · refine A_iconst hC d_G_isTokenInRange_63 (by decide) ?_
      refine A_zret hC d_G_isTokenInRange_64 rfl (Nat.le_refl _) (Nat.le_refl _) (by first | decide | omega) ?_
      exact ⟨fx_r (by split <;> omega), rfl, rfl⟩
    · refine A_ild2 hC d_G_isTokenInRange_50 ?_
      refine A_iconst hC d_G_isTokenInRange_51 (by decide) ?_
      refine A_iconst hC d_G_isTokenInRange_52 (by decide) ?_
      refine A_SF1 (as := [.inl b, .inl 0, .inl 3]) hC d_G_isTokenInRange_53 mv_G_isWithin lk_G_72 (by decide) (k_G_isWithin l n M hn b 0 3) rfl rfl (Nat.le_of_ble_eq_true rfl) ⟨Nat.zero_le _, Nat.zero_le _⟩ rfl ?_
      refine A_ifeq (tgt := 63) hC d_G_isTokenInRange_56 (by decide) (fun h56 => ?_) (fun h56 => ?_)
      · refine A_iconst hC d_G_isTokenInRange_63 (by decide) ?_
        refine A_zret hC d_G_isTokenInRange_64 rfl (Nat.le_refl _) (Nat.le_refl _) (by first | decide | omega) ?_
        exact ⟨fx_r (by split <;> omega), rfl, rfl⟩
      · refine A_iconst hC d_G_isTokenInRange_59 (by decide) ?_
        refine A_goto (tgt := 64) hC d_G_isTokenInRange_60 (by decide) ?_
        refine A_zret hC d_G_isTokenInRange_64 rfl (Nat.le_refl _) (Nat.le_refl _) (by first | decide | omega) ?_
        exact ⟨fx_r (by split <;> omega), rfl, rfl⟩
  · refine A_ild1 hC d_G_isTokenInRange_65 ?_
    refine A_iconst hC d_G_isTokenInRange_66 (by decide) ?_
    refine A_bipush hC d_G_isTokenInRange_67 (by decide) (by decide) ?_
    refine A_SF1 (as := [.inl a, .inl 0, .inl 9]) hC d_G_isTokenInRange_69 mv_G_isWithin lk_G_72 (by decide) (k_G_isWithin l n M hn a 0 9) rfl rfl (Nat.le_of_ble_eq_true rfl) ⟨Nat.zero_le _, Nat.zero_le _⟩ rfl ?_
    refine A_zret hC d_G_isTokenInRange_72 rfl (Nat.le_refl _) (Nat.le_refl _) (by first | decide | omega) ?_
    exact ⟨fx_r (by split <;> omega), rfl, rfl⟩
  · refine A_ild1 hC d_G_isTokenInRange_73 ?_
    refine A_iconst hC d_G_isTokenInRange_74 (by decide) ?_
    refine A_iconst hC d_G_isTokenInRange_75 (by decide) ?_
    refine A_SF1 (as := [.inl a, .inl 0, .inl 4]) hC d_G_isTokenInRange_76 mv_G_isWithin lk_G_72 (by decide) (k_G_isWithin l n M hn a 0 4) rfl rfl (Nat.le_of_ble_eq_true rfl) ⟨Nat.zero_le _, Nat.zero_le _⟩ rfl ?_
    refine A_zret hC d_G_isTokenInRange_79 rfl (Nat.le_refl _) (Nat.le_refl _) (by first | decide | omega) ?_
    exact ⟨fx_r (by split <;> omega), rfl, rfl⟩
  · refine A_ild1 hC d_G_isTokenInRange_80 ?_
    refine A_iconst hC d_G_isTokenInRange_81 (by decide) ?_
    refine A_iconst hC d_G_isTokenInRange_82 (by decide) ?_
    refine A_SF1 (as := [.inl a, .inl 0, .inl 3]) hC d_G_isTokenInRange_83 mv_G_isWithin lk_G_72 (by decide) (k_G_isWithin l n M hn a 0 3) rfl rfl (Nat.le_of_ble_eq_true rfl) ⟨Nat.zero_le _, Nat.zero_le _⟩ rfl ?_
    refine A_ifeq (tgt := 102) hC d_G_isTokenInRange_86 (by decide) (fun h86 => ?_) (fun h86 => ?_)
    · refine A_iconst hC d_G_isTokenInRange_102 (by decide) ?_
      refine A_zret hC d_G_isTokenInRange_103 rfl (Nat.le_refl _) (Nat.le_refl _) (by first | decide | omega) ?_
      exact ⟨fx_r (by split <;> omega), rfl, rfl⟩
    · refine A_ild2 hC d_G_isTokenInRange_89 ?_
      refine A_iconst hC d_G_isTokenInRange_90 (by decide) ?_
      refine A_iconst hC d_G_isTokenInRange_91 (by decide) ?_
      refine A_SF1 (as := [.inl b, .inl 0, .inl 1]) hC d_G_isTokenInRange_92 mv_G_isWithin lk_G_72 (by decide) (k_G_isWithin l n M hn b 0 1) rfl rfl (Nat.le_of_ble_eq_true rfl) ⟨Nat.zero_le _, Nat.zero_le _⟩ rfl ?_
      refine A_ifeq (tgt := 102) hC d_G_isTokenInRange_95 (by decide) (fun h95 => ?_) (fun h95 => ?_)
      · refine A_iconst hC d_G_isTokenInRange_102 (by decide) ?_
        refine A_zret hC d_G_isTokenInRange_103 rfl (Nat.le_refl _) (Nat.le_refl _) (by first | decide | omega) ?_
        exact ⟨fx_r (by split <;> omega), rfl, rfl⟩
      · refine A_iconst hC d_G_isTokenInRange_98 (by decide) ?_
        refine A_goto (tgt := 103) hC d_G_isTokenInRange_99 (by decide) ?_
        refine A_zret hC d_G_isTokenInRange_103 rfl (Nat.le_refl _) (Nat.le_refl _) (by first | decide | omega) ?_
        exact ⟨fx_r (by split <;> omega), rfl, rfl⟩
  · refine A_ild1 hC d_G_isTokenInRange_104 ?_
    refine A_iconst hC d_G_isTokenInRange_105 (by decide) ?_
    refine A_iconst hC d_G_isTokenInRange_106 (by decide) ?_
    refine A_SF1 (as := [.inl a, .inl 1, .inl 3]) hC d_G_isTokenInRange_107 mv_G_isWithin lk_G_72 (by decide) (k_G_isWithin l n M hn a 1 3) rfl rfl (Nat.le_of_ble_eq_true rfl) ⟨Nat.zero_le _, Nat.zero_le _⟩ rfl ?_
    refine A_zret hC d_G_isTokenInRange_110 rfl (Nat.le_refl _) (Nat.le_refl _) (by first | decide | omega) ?_
    exact ⟨fx_r (by split <;> omega), rfl, rfl⟩
  · refine A_ild0 hC d_G_isTokenInRange_111 ?_
    refine A_bipush hC d_G_isTokenInRange_112 (by decide) (by decide) ?_
    refine A_icmpne (tgt := 121) hC d_G_isTokenInRange_114 (by decide) (fun h114 => ?_) (fun h114 => ?_)
    · refine A_iconst hC d_G_isTokenInRange_121 (by decide) ?_
      refine A_zret hC d_G_isTokenInRange_122 rfl (Nat.le_refl _) (Nat.le_refl _) (by first | decide | omega) ?_
      exact ⟨fx_r (by split <;> omega), rfl, rfl⟩
    · refine A_iconst hC d_G_isTokenInRange_117 (by decide) ?_
      refine A_goto (tgt := 122) hC d_G_isTokenInRange_118 (by decide) ?_
      refine A_zret hC d_G_isTokenInRange_122 rfl (Nat.le_refl _) (Nat.le_refl _) (by first | decide | omega) ?_
      exact ⟨fx_r (by split <;> omega), rfl, rfl⟩
set_option maxHeartbeats 4000000 in
theorem k_G_hasSetBehind (l : Launch) (n : Nat) (M : Mem) (hn : 117 ≤ n) (op : Int) : AF l m_G_hasSetBehind 1 [.inl op] n M (some (.inl (if opnP op then 1 else 0))) M := by
  refine AM_intro (by decide) (Nat.le_of_ble_eq_true rfl) (fun X b0 D hC _ => ?_)
  show AW X b0 D true 0 0 _ n M 0 [some (.inl op)] []
  refine A_ild0 hC d_G_hasSetBehind_0 ?_
  refine A_iconst hC d_G_hasSetBehind_1 (by decide) ?_
  refine A_icmpeq (tgt := 15) hC d_G_hasSetBehind_2 (by decide) (fun h2 => ?_) (fun h2 => ?_)
  · refine A_iconst hC d_G_hasSetBehind_15 (by decide) ?_
    refine A_goto (tgt := 20) hC d_G_hasSetBehind_16 (by decide) ?_
    refine A_zret hC d_G_hasSetBehind_20 rfl (Nat.le_refl _) (Nat.le_refl _) (by first | decide | omega) ?_
    exact ⟨fx_r (by split <;> omega), rfl, rfl⟩
  · refine A_ild0 hC d_G_hasSetBehind_5 ?_
    refine A_iconst hC d_G_hasSetBehind_6 (by decide) ?_
    refine A_icmpeq (tgt := 15) hC d_G_hasSetBehind_7 (by decide) (fun h7 => ?_) (fun h7 => ?_)
    · refine A_iconst hC d_G_hasSetBehind_15 (by decide) ?_
      refine A_goto (tgt := 20) hC d_G_hasSetBehind_16 (by decide) ?_
      refine A_zret hC d_G_hasSetBehind_20 rfl (Nat.le_refl _) (Nat.le_refl _) (by first | decide | omega) ?_
      exact ⟨fx_r (by split <;> omega), rfl, rfl⟩
    · refine A_ild0 hC d_G_hasSetBehind_10 ?_
      refine A_iconst hC d_G_hasSetBehind_11 (by decide) ?_
      refine A_icmpne (tgt := 19) hC d_G_hasSetBehind_12 (by decide) (fun h12 => ?_) (fun h12 => ?_)
      · refine A_iconst hC d_G_hasSetBehind_19 (by decide) ?_
        refine A_zret hC d_G_hasSetBehind_20 rfl (Nat.le_refl _) (Nat.le_refl _) (by first | decide | omega) ?_
        exact ⟨fx_r (by split <;> omega), rfl, rfl⟩
      · refine A_iconst hC d_G_hasSetBehind_15 (by decide) ?_
        refine A_goto (tgt := 20) hC d_G_hasSetBehind_16 (by decide) ?_
        refine A_zret hC d_G_hasSetBehind_20 rfl (Nat.le_refl _) (Nat.le_refl _) (by first | decide | omega) ?_
        exact ⟨fx_r (by split <;> omega), rfl, rfl⟩
/-- the types are at most five, their fields at most four -/
def SC (M : Mem) : Prop := 0 ≤ M 1 4 ∧ M 1 4 ≤ 5 ∧ ∀ t : Int, 0 ≤ M 2 t ∧ M 2 t ≤ 4
abbrev hasF (M : Mem) (t f : Int) : Prop := (0 ≤ t ∧ t < M 1 4) ∧ 0 ≤ f ∧ f < M 2 t
set_option maxHeartbeats 4000000 in
theorem k_Sc_hasType (l : Launch) (n : Nat) (M : Mem) (hn : 117 ≤ n) (t : Int) : AF l m_Sc_hasType 1 [.inr 1, .inl t] n M (some (.inl (if 0 ≤ t ∧ t < M 1 4 then 1 else 0))) M := by
  refine AM_intro (by decide) (Nat.le_of_ble_eq_true rfl) (fun X b0 D hC _ => ?_)
  show AW X b0 D true 0 0 _ n M 0 [some (.inr 1), some (.inl t)] []
  refine A_ild1 hC d_Sc_hasType_0 ?_
  refine A_iflt (tgt := 16) hC d_Sc_hasType_1 (by decide) (fun h1 => ?_) (fun h1 => ?_)
  · refine A_iconst hC d_Sc_hasType_16 (by decide) ?_
    refine A_zret hC d_Sc_hasType_17 rfl (Nat.le_refl _) (Nat.le_refl _) (by first | decide | omega) ?_
    exact ⟨fx_r (by split <;> omega), rfl, rfl⟩
  · refine A_ild1 hC d_Sc_hasType_4 ?_
    refine A_ald0 hC d_Sc_hasType_5 ?_
    refine A_getI (kI := 4) hC d_Sc_hasType_6 fF_Sc_25 ⟨by decide, rfl⟩ rfl ly_1 (by omega) ?_
    refine A_icmpge (tgt := 16) hC d_Sc_hasType_9 (by decide) (fun h9 => ?_) (fun h9 => ?_)
    · refine A_iconst hC d_Sc_hasType_16 (by decide) ?_
      refine A_zret hC d_Sc_hasType_17 rfl (Nat.le_refl _) (Nat.le_refl _) (by first | decide | omega) ?_
      exact ⟨fx_r (by split <;> omega), rfl, rfl⟩
    · refine A_iconst hC d_Sc_hasType_12 (by decide) ?_
      refine A_goto (tgt := 17) hC d_Sc_hasType_13 (by decide) ?_
      refine A_zret hC d_Sc_hasType_17 rfl (Nat.le_refl _) (Nat.le_refl _) (by first | decide | omega) ?_
      exact ⟨fx_r (by split <;> omega), rfl, rfl⟩
set_option maxHeartbeats 4000000 in
theorem k_Sc_hasField (l : Launch) (n : Nat) (M : Mem) (hn : 117 ≤ n) (hS : SC M) (t f : Int) : AF l m_Sc_hasField 2 [.inr 1, .inl t, .inl f] n M (some (.inl (if hasF M t f then 1 else 0))) M := by
  refine AM_intro (by decide) (Nat.le_of_ble_eq_true rfl) (fun X b0 D hC _ => ?_)
  show AW X b0 D true 0 0 _ n M 0 [some (.inr 1), some (.inl t), some (.inl f)] []
  have hS1 := hS.1
  have hS2 := hS.2.1
  have hS3 := hS.2.2 t
  refine A_ald0 hC d_Sc_hasField_0 ?_
  refine A_ild1 hC d_Sc_hasField_1 ?_
  refine A_VF1 (as := [.inl t]) hC d_Sc_hasField_2 mv_Sc_hasType lk_Sc_29 (by decide) sel_Sc_hasType hq_Sc ly_1 (by omega) (k_Sc_hasType l n M hn t) rfl rfl (Nat.le_of_ble_eq_true rfl) ⟨Nat.zero_le _, Nat.zero_le _⟩ rfl ?_
  refine A_ifeq (tgt := 26) hC d_Sc_hasField_5 (by decide) (fun h5 => ?_) (fun h5 => ?_)
  · refine A_iconst hC d_Sc_hasField_26 (by decide) ?_
    refine A_zret hC d_Sc_hasField_27 rfl (Nat.le_refl _) (Nat.le_refl _) (by first | decide | omega) ?_
    exact ⟨fx_r (by split <;> omega), rfl, rfl⟩
  · refine A_ild2 hC d_Sc_hasField_8 ?_
    refine A_iflt (tgt := 26) hC d_Sc_hasField_9 (by decide) (fun h9 => ?_) (fun h9 => ?_)
    · refine A_iconst hC d_Sc_hasField_26 (by decide) ?_
      refine A_zret hC d_Sc_hasField_27 rfl (Nat.le_refl _) (Nat.le_refl _) (by first | decide | omega) ?_
      exact ⟨fx_r (by split <;> omega), rfl, rfl⟩
    · refine A_ild2 hC d_Sc_hasField_12 ?_
      refine A_ald0 hC d_Sc_hasField_13 ?_
      refine A_getCR (v := 2) hC d_Sc_hasField_14 fF_Sc_9 ⟨by decide, rfl⟩ ly_1 (by omega) ⟨rfl, by decide⟩ cv_1_0 ?_
      refine A_ild1 hC d_Sc_hasField_17 ?_
      refine A_iald hC d_Sc_hasField_18 ly_2 (by omega) (by omega) ?_
      refine A_icmpge (tgt := 26) hC d_Sc_hasField_19 (by decide) (fun h19 => ?_) (fun h19 => ?_)
      · refine A_iconst hC d_Sc_hasField_26 (by decide) ?_
        refine A_zret hC d_Sc_hasField_27 rfl (Nat.le_refl _) (Nat.le_refl _) (by first | decide | omega) ?_
        exact ⟨fx_r (by split <;> omega), rfl, rfl⟩
      · refine A_iconst hC d_Sc_hasField_22 (by decide) ?_
        refine A_goto (tgt := 27) hC d_Sc_hasField_23 (by decide) ?_
        refine A_zret hC d_Sc_hasField_27 rfl (Nat.le_refl _) (Nat.le_refl _) (by first | decide | omega) ?_
        exact ⟨fx_r (by split <;> omega), rfl, rfl⟩
set_option maxHeartbeats 4000000 in
theorem k_Sc_kindOf (l : Launch) (n : Nat) (M : Mem) (hn : 117 ≤ n) (hS : SC M) (t f : Int) : AF l m_Sc_kindOf 3 [.inr 1, .inl t, .inl f] n M (some (.inl (if hasF M t f then M 3 (t * 4 + f) else -1))) M := by
  refine AM_intro (by decide) (Nat.le_of_ble_eq_true rfl) (fun X b0 D hC _ => ?_)
  show AW X b0 D true 0 0 _ n M 0 [some (.inr 1), some (.inl t), some (.inl f)] []
  have hS1 := hS.1
  have hS2 := hS.2.1
  have hS3 := hS.2.2 t
  refine A_ald0 hC d_Sc_kindOf_0 ?_
  refine A_ild1 hC d_Sc_kindOf_1 ?_
  refine A_ild2 hC d_Sc_kindOf_2 ?_
  refine A_VF1 (as := [.inl t, .inl f]) hC d_Sc_kindOf_3 mv_Sc_hasField lk_Sc_33 (by decide) sel_Sc_hasField hq_Sc ly_1 (by omega) (k_Sc_hasField l n M hn hS t f) rfl rfl (Nat.le_of_ble_eq_true rfl) ⟨Nat.zero_le _, Nat.zero_le _⟩ rfl ?_
  refine A_ifeq (tgt := 22) hC d_Sc_kindOf_6 (by decide) (fun h6 => ?_) (fun h6 => ?_)
  · refine A_iconst hC d_Sc_kindOf_22 (by decide) ?_
    refine A_iret hC d_Sc_kindOf_23 rfl (Nat.le_refl _) (Nat.le_refl _) ?_
    exact ⟨fx_r (by split <;> omega), rfl, rfl⟩
  · refine A_ald0 hC d_Sc_kindOf_9 ?_
    refine A_getCR (v := 3) hC d_Sc_kindOf_10 fF_Sc_15 ⟨by decide, rfl⟩ ly_1 (by omega) ⟨rfl, by decide⟩ cv_1_1 ?_
    refine A_ild1 hC d_Sc_kindOf_13 ?_
    refine A_iconst hC d_Sc_kindOf_14 (by decide) ?_
    refine A_imul hC d_Sc_kindOf_15 (by omega) ?_
    refine A_ild2 hC d_Sc_kindOf_16 ?_
    refine A_iadd hC d_Sc_kindOf_17 (by omega) ?_
    refine A_iald hC d_Sc_kindOf_18 ly_3 (by omega) (by omega) ?_
    refine A_goto (tgt := 23) hC d_Sc_kindOf_19 (by decide) ?_
    refine A_iret hC d_Sc_kindOf_23 rfl (Nat.le_refl _) (Nat.le_refl _) ?_
    exact ⟨fx_r (by split <;> omega), rfl, rfl⟩
set_option maxHeartbeats 4000000 in
theorem k_Sc_targetOf (l : Launch) (n : Nat) (M : Mem) (hn : 117 ≤ n) (hS : SC M) (t f : Int) : AF l m_Sc_targetOf 3 [.inr 1, .inl t, .inl f] n M (some (.inl (if hasF M t f then M 4 (t * 4 + f) else 5))) M := by
  refine AM_intro (by decide) (Nat.le_of_ble_eq_true rfl) (fun X b0 D hC _ => ?_)
  show AW X b0 D true 0 0 _ n M 0 [some (.inr 1), some (.inl t), some (.inl f)] []
  have hS1 := hS.1
  have hS2 := hS.2.1
  have hS3 := hS.2.2 t
  refine A_ald0 hC d_Sc_targetOf_0 ?_
  refine A_ild1 hC d_Sc_targetOf_1 ?_
  refine A_ild2 hC d_Sc_targetOf_2 ?_
  refine A_VF1 (as := [.inl t, .inl f]) hC d_Sc_targetOf_3 mv_Sc_hasField lk_Sc_33 (by decide) sel_Sc_hasField hq_Sc ly_1 (by omega) (k_Sc_hasField l n M hn hS t f) rfl rfl (Nat.le_of_ble_eq_true rfl) ⟨Nat.zero_le _, Nat.zero_le _⟩ rfl ?_
  refine A_ifeq (tgt := 22) hC d_Sc_targetOf_6 (by decide) (fun h6 => ?_) (fun h6 => ?_)
  · refine A_iconst hC d_Sc_targetOf_22 (by decide) ?_
    refine A_iret hC d_Sc_targetOf_23 rfl (Nat.le_refl _) (Nat.le_refl _) ?_
    exact ⟨fx_r (by split <;> omega), rfl, rfl⟩
  · refine A_ald0 hC d_Sc_targetOf_9 ?_
    refine A_getCR (v := 4) hC d_Sc_targetOf_10 fF_Sc_18 ⟨by decide, rfl⟩ ly_1 (by omega) ⟨rfl, by decide⟩ cv_1_2 ?_
    refine A_ild1 hC d_Sc_targetOf_13 ?_
    refine A_iconst hC d_Sc_targetOf_14 (by decide) ?_
    refine A_imul hC d_Sc_targetOf_15 (by omega) ?_
    refine A_ild2 hC d_Sc_targetOf_16 ?_
    refine A_iadd hC d_Sc_targetOf_17 (by omega) ?_
    refine A_iald hC d_Sc_targetOf_18 ly_4 (by omega) (by omega) ?_
    refine A_goto (tgt := 23) hC d_Sc_targetOf_19 (by decide) ?_
    refine A_iret hC d_Sc_targetOf_23 rfl (Nat.le_refl _) (Nat.le_refl _) ?_
    exact ⟨fx_r (by split <;> omega), rfl, rfl⟩
set_option maxHeartbeats 4000000 in
theorem k_Sc_isRequired (l : Launch) (n : Nat) (M : Mem) (hn : 117 ≤ n) (hS : SC M) (t f : Int) : AF l m_Sc_isRequired 3 [.inr 1, .inl t, .inl f] n M (some (.inl (if hasF M t f ∧ ¬ M 5 (t * 4 + f) = 0 then 1 else 0))) M := by
  refine AM_intro (by decide) (Nat.le_of_ble_eq_true rfl) (fun X b0 D hC _ => ?_)
  show AW X b0 D true 0 0 _ n M 0 [some (.inr 1), some (.inl t), some (.inl f)] []
  have hS1 := hS.1
  have hS2 := hS.2.1
  have hS3 := hS.2.2 t
  refine A_ald0 hC d_Sc_isRequired_0 ?_
  refine A_ild1 hC d_Sc_isRequired_1 ?_
  refine A_ild2 hC d_Sc_isRequired_2 ?_
  refine A_VF1 (as := [.inl t, .inl f]) hC d_Sc_isRequired_3 mv_Sc_hasField lk_Sc_33 (by decide) sel_Sc_hasField hq_Sc ly_1 (by omega) (k_Sc_hasField l n M hn hS t f) rfl rfl (Nat.le_of_ble_eq_true rfl) ⟨Nat.zero_le _, Nat.zero_le _⟩ rfl ?_
  refine A_ifeq (tgt := 26) hC d_Sc_isRequired_6 (by decide) (fun h6 => ?_) (fun h6 => ?_)
  · refine A_iconst hC d_Sc_isRequired_26 (by decide) ?_
    refine A_zret hC d_Sc_isRequired_27 rfl (Nat.le_refl _) (Nat.le_refl _) (by first | decide | omega) ?_
    exact ⟨fx_r (by split <;> omega), rfl, rfl⟩
  · refine A_ald0 hC d_Sc_isRequired_9 ?_
    refine A_getCR (v := 5) hC d_Sc_isRequired_10 fF_Sc_21 ⟨by decide, rfl⟩ ly_1 (by omega) ⟨rfl, by decide⟩ cv_1_3 ?_
    refine A_ild1 hC d_Sc_isRequired_13 ?_
    refine A_iconst hC d_Sc_isRequired_14 (by decide) ?_
    refine A_imul hC d_Sc_isRequired_15 (by omega) ?_
    refine A_ild2 hC d_Sc_isRequired_16 ?_
    refine A_iadd hC d_Sc_isRequired_17 (by omega) ?_
    refine A_zald hC d_Sc_isRequired_18 ly_5 (by omega) (by omega) ?_
    refine A_ifeq (tgt := 26) hC d_Sc_isRequired_19 (by decide) (fun h19 => ?_) (fun h19 => ?_)
    · refine A_iconst hC d_Sc_isRequired_26 (by decide) ?_
      refine A_zret hC d_Sc_isRequired_27 rfl (Nat.le_refl _) (Nat.le_refl _) (by first | decide | omega) ?_
      exact ⟨fx_r (by split <;> omega), rfl, rfl⟩
    · refine A_iconst hC d_Sc_isRequired_22 (by decide) ?_
      refine A_goto (tgt := 27) hC d_Sc_isRequired_23 (by decide) ?_
      refine A_zret hC d_Sc_isRequired_27 rfl (Nat.le_refl _) (Nat.le_refl _) (by first | decide | omega) ?_
      exact ⟨fx_r (by split <;> omega), rfl, rfl⟩
set_option maxHeartbeats 4000000 in
theorem k_Sc_addType (l : Launch) (n : Nat) (M : Mem) (hn : 117 ≤ n) (hS : SC M) : AF l m_Sc_addType 1 [.inr 1] n M (some (.inl (M 1 4))) (up M 1 4 (M 1 4 + 1)) := by
  refine AM_intro (by decide) (Nat.le_of_ble_eq_true rfl) (fun X b0 D hC _ => ?_)
  show AW X b0 D true 0 0 _ n M 0 [some (.inr 1), none] []
  have hS1 := hS.1
  have hS2 := hS.2.1
  refine A_ald0 hC d_Sc_addType_0 ?_
  refine A_getI (kI := 4) hC d_Sc_addType_1 fF_Sc_25 ⟨by decide, rfl⟩ rfl ly_1 (by omega) ?_
  refine A_ist1 hC d_Sc_addType_4 ?_
  refine A_ald0 hC d_Sc_addType_5 ?_
  refine A_dup hC d_Sc_addType_6 ?_
  refine A_getI (kI := 4) hC d_Sc_addType_7 fF_Sc_25 ⟨by decide, rfl⟩ rfl ly_1 (by omega) ?_
  refine A_iconst hC d_Sc_addType_10 (by decide) ?_
  refine A_iadd hC d_Sc_addType_11 (by omega) ?_
  refine A_putI (kI := 4) hC d_Sc_addType_12 fP_Sc_25 ⟨by decide, rfl⟩ rfl ly_1 (by omega) (fun _ => by decide) ?_
  refine A_ild1 hC d_Sc_addType_15 ?_
  refine A_iret hC d_Sc_addType_16 rfl (Nat.le_refl _) (Nat.le_refl _) ?_
  exact ⟨rfl, rfl, rfl⟩
