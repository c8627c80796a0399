/-- k tokens from i on, with d SETS open: are they the rest of a GOOD text? -/
def gdF (op : Int → Int) : Nat → Int → Int → Int
  | 0, _, d => if d = 0 then 1 else 0
  | k + 1, i, d => if d = 0 then 0 else if op i = 6 then gdF op k (i + 1) (d - 1) else if opnP (op i) then (if d = 4 then 0 else gdF op k (i + 1) (d + 1)) else gdF op k (i + 1) d
theorem gdF_01 (op : Int → Int) : ∀ (k : Nat) (i d : Int), gdF op k i d = 0 ∨ gdF op k i d = 1
  | 0, _, d => by unfold gdF; split <;> simp
  | k + 1, i, d => by
    unfold gdF
    repeat (first | exact gdF_01 op k _ _ | (left; rfl) | split)
def gd (op len : Int → Int) (t : Int) : Int := gdF op (len t).toNat (16 * t) 1
set_option maxHeartbeats 4000000 in
theorem k_Te_isGood (l : Launch) (n : Nat) (M : Mem) (hn : 117 ≤ n) (hT : TX M) (t : Int) (ht : 0 ≤ t ∧ t ≤ 3) : AF l m_Te_isGood 2 [.inr 11, .inl t] n M (some (.inl (gd (M 13) (M 12) t))) M := by
  refine AM_intro (by decide) (Nat.le_of_ble_eq_true rfl) (fun X b0 D hC _ => ?_)
  show AW X b0 D true 0 0 (fx_Q X b0 D true 0 0 (fun r' n' M' => r' = (some (.inl (gd (M 13) (M 12) t))) ∧ n' = n ∧ M' = M)) n M 0 [some (.inr 11), some (.inl t), none, none, none] []
  have hT1 := hT t
  have loop : ∀ (k : Nat) (i d : Int) (x4 : Option AV), (k : Int) = M 12 t - i → 0 ≤ i → 0 ≤ d ∧ d ≤ 4 → gdF (M 13) k (16 * t + i) d = gd (M 13) (M 12) t → AW X b0 D true 0 0 (fx_Q X b0 D true 0 0 (fun r' n' M' => r' = (some (.inl (gd (M 13) (M 12) t))) ∧ n' = n ∧ M' = M)) n M 4 [some (.inr 11), some (.inl t), some (.inl d), some (.inl i), x4] [] := by
    intro k
    induction k with
    | zero =>
      intro i d x4 hk hi hd hg
      unfold gdF at hg
      refine A_ild3 hC d_Te_isGood_4 ?_
      refine A_ald0 hC d_Te_isGood_5 ?_
      refine A_getCR (v := 12) hC d_Te_isGood_6 fF_Te_9 ⟨by decide, rfl⟩ ly_11 (by omega) ⟨rfl, by decide⟩ cv_11_0 ?_
      refine A_ild1 hC d_Te_isGood_9 ?_
      refine A_iald hC d_Te_isGood_10 ly_12 (by omega) (by omega) ?_
      refine A_icmpge (tgt := 70) hC d_Te_isGood_11 (by decide) (fun h11 => ?_) (fun h11 => ?_)
      · refine A_ild2 hC d_Te_isGood_70 ?_
        refine A_ifne (tgt := 78) hC d_Te_isGood_71 (by decide) (fun h71 => ?_) (fun h71 => ?_)
        · refine A_iconst hC d_Te_isGood_78 (by decide) ?_
          refine A_zret hC d_Te_isGood_79 rfl (Nat.le_refl _) (Nat.le_refl _) (by first | decide | omega) ?_
          exact ⟨fx_r (by rw [← hg]; split <;> omega), rfl, rfl⟩
        · refine A_iconst hC d_Te_isGood_74 (by decide) ?_
          refine A_goto (tgt := 79) hC d_Te_isGood_75 (by decide) ?_
          refine A_zret hC d_Te_isGood_79 rfl (Nat.le_refl _) (Nat.le_refl _) (by first | decide | omega) ?_
          exact ⟨fx_r (by rw [← hg]; split <;> omega), rfl, rfl⟩
      · exact absurd h11 (by omega)
    | succ k ih =>
      intro i d x4 hk hi hd hg
      unfold gdF at hg
      refine A_ild3 hC d_Te_isGood_4 ?_
      refine A_ald0 hC d_Te_isGood_5 ?_
      refine A_getCR (v := 12) hC d_Te_isGood_6 fF_Te_9 ⟨by decide, rfl⟩ ly_11 (by omega) ⟨rfl, by decide⟩ cv_11_0 ?_
      refine A_ild1 hC d_Te_isGood_9 ?_
      refine A_iald hC d_Te_isGood_10 ly_12 (by omega) (by omega) ?_
      refine A_icmpge (tgt := 70) hC d_Te_isGood_11 (by decide) (fun h11 => ?_) (fun h11 => ?_)
      · exact absurd h11 (by omega)
      · refine A_ild2 hC d_Te_isGood_14 ?_
        refine A_ifne (tgt := 20) hC d_Te_isGood_15 (by decide) (fun h15 => ?_) (fun h15 => ?_)
        · refine A_ald0 hC d_Te_isGood_20 ?_
          refine A_getCR (v := 13) hC d_Te_isGood_21 fF_Te_15 ⟨by decide, rfl⟩ ly_11 (by omega) ⟨rfl, by decide⟩ cv_11_1 ?_
          refine A_ild1 hC d_Te_isGood_24 ?_
          refine A_bipush hC d_Te_isGood_25 (by decide) (by decide) ?_
          refine A_imul hC d_Te_isGood_27 (by omega) ?_
          refine A_ild3 hC d_Te_isGood_28 ?_
          refine A_iadd hC d_Te_isGood_29 (by omega) ?_
          refine A_iald hC d_Te_isGood_30 ly_13 (by omega) (by omega) ?_
          refine A_eqi (show M 13 (t * 16 + i) = M 13 (16 * t + i) by rw [Int.mul_comm]) ?_
          refine A_ist4 hC d_Te_isGood_31 ?_
          refine A_ild4 hC d_Te_isGood_33 ?_
          refine A_bipush hC d_Te_isGood_35 (by decide) (by decide) ?_
          refine A_icmpne (tgt := 46) hC d_Te_isGood_37 (by decide) (fun h37 => ?_) (fun h37 => ?_)
          · refine A_ild4 hC d_Te_isGood_46 ?_
            refine A_SNF1 (as := [.inl (M 13 (16 * t + i))]) hC d_Te_isGood_48 mv_G_hasSetBehind lk_Te_24 (by decide) (k_G_hasSetBehind l n M hn (M 13 (16 * t + i))) rfl rfl (Nat.le_of_ble_eq_true rfl) ⟨Nat.zero_le _, Nat.zero_le _⟩ rfl ?_
            refine A_ifeq (tgt := 57) hC d_Te_isGood_51 (by decide) (fun h51 => ?_) (fun h51 => ?_)
            · refine A_ild2 hC d_Te_isGood_57 ?_
              refine A_iconst hC d_Te_isGood_58 (by decide) ?_
              refine A_icmple (tgt := 64) hC d_Te_isGood_59 (by decide) (fun h59 => ?_) (fun h59 => ?_)
              · refine A_iinc3 hC d_Te_isGood_64 (by omega) ?_
                refine A_goto (tgt := 4) hC d_Te_isGood_67 (by decide) ?_
                exact ih (i + 1) (d) _ (by omega) (by omega) (by omega) (by rw [if_neg (by omega), if_neg (by omega), if_neg (by omega)] at hg; rw [show 16 * t + (i + 1) = 16 * t + i + 1 by omega]; first | exact hg | (rw [show d = d - 1 by omega]; exact hg))
              · refine A_iconst hC d_Te_isGood_62 (by decide) ?_
                refine A_zret hC d_Te_isGood_63 rfl (Nat.le_refl _) (Nat.le_refl _) (by first | decide | omega) ?_
                exact ⟨fx_r (by rw [← hg]; repeat (first | rfl | omega | split)), rfl, rfl⟩
            · refine A_iinc2 hC d_Te_isGood_54 (by omega) ?_
              refine A_ild2 hC d_Te_isGood_57 ?_
              refine A_iconst hC d_Te_isGood_58 (by decide) ?_
              refine A_icmple (tgt := 64) hC d_Te_isGood_59 (by decide) (fun h59 => ?_) (fun h59 => ?_)
              · refine A_iinc3 hC d_Te_isGood_64 (by omega) ?_
                refine A_goto (tgt := 4) hC d_Te_isGood_67 (by decide) ?_
                exact ih (i + 1) (d + 1) _ (by omega) (by omega) (by omega) (by rw [if_neg (by omega), if_neg (by omega), if_pos (by omega), if_neg (by omega)] at hg; rw [show 16 * t + (i + 1) = 16 * t + i + 1 by omega]; first | exact hg | (rw [show d + 1 = d - 1 by omega]; exact hg))
              · refine A_iconst hC d_Te_isGood_62 (by decide) ?_
                refine A_zret hC d_Te_isGood_63 rfl (Nat.le_refl _) (Nat.le_refl _) (by first | decide | omega) ?_
                exact ⟨fx_r (by rw [← hg]; repeat (first | rfl | omega | split)), rfl, rfl⟩
          · refine A_iinc2 hC d_Te_isGood_40 (by omega) ?_
            refine A_goto (tgt := 57) hC d_Te_isGood_43 (by decide) ?_
            refine A_ild2 hC d_Te_isGood_57 ?_
            refine A_iconst hC d_Te_isGood_58 (by decide) ?_
            refine A_icmple (tgt := 64) hC d_Te_isGood_59 (by decide) (fun h59 => ?_) (fun h59 => ?_)
            · refine A_iinc3 hC d_Te_isGood_64 (by omega) ?_
              refine A_goto (tgt := 4) hC d_Te_isGood_67 (by decide) ?_
              exact ih (i + 1) (d + (-1)) _ (by omega) (by omega) (by omega) (by rw [if_neg (by omega), if_pos (by omega)] at hg; rw [show 16 * t + (i + 1) = 16 * t + i + 1 by omega]; first | exact hg | (rw [show d + (-1) = d - 1 by omega]; exact hg))
            · refine A_iconst hC d_Te_isGood_62 (by decide) ?_
              refine A_zret hC d_Te_isGood_63 rfl (Nat.le_refl _) (Nat.le_refl _) (by first | decide | omega) ?_
              exact ⟨fx_r (by rw [← hg]; repeat (first | rfl | omega | split)), rfl, rfl⟩
        · refine A_iconst hC d_Te_isGood_18 (by decide) ?_
          refine A_zret hC d_Te_isGood_19 rfl (Nat.le_refl _) (Nat.le_refl _) (by first | decide | omega) ?_
          exact ⟨fx_r (by rw [← hg]; repeat (first | rfl | omega | split)), rfl, rfl⟩
  refine A_iconst hC d_Te_isGood_0 (by decide) ?_
  refine A_ist2 hC d_Te_isGood_1 ?_
  refine A_iconst hC d_Te_isGood_2 (by decide) ?_
  refine A_ist3 hC d_Te_isGood_3 ?_
  exact loop (M 12 t).toNat 0 1 none (by omega) (by omega) (by omega) (by rw [Int.add_zero]; rfl)
set_option maxHeartbeats 4000000 in
theorem k_Mo_good (l : Launch) (n : Nat) (M : Mem) (hn : 117 ≤ n) (hB : MB M) (t : Int) (ht : 0 ≤ t ∧ t ≤ 3) : AF l m_Mo_good 2 [.inr 88, .inl t] n M (some (.inl (gd (M 96) (M 95) t))) M := by
  refine AM_intro (by decide) (Nat.le_of_ble_eq_true rfl) (fun X b0 D hC _ => ?_)
  show AW X b0 D true 0 0 (fx_Q X b0 D true 0 0 (fun r' n' M' => r' = (some (.inl (gd (M 96) (M 95) t))) ∧ n' = n ∧ M' = M)) n M 0 [some (.inr 88), some (.inl t), none, none] []
  have hB6 := hB.2.2.2.2.2 t
  have loop : ∀ (k : Nat) (i d : Int), (k : Int) = 16 * t + M 95 t - i → 16 * t ≤ i → 0 ≤ d ∧ d ≤ 4 → gdF (M 96) k i d = gd (M 96) (M 95) t → AW X b0 D true 0 0 (fx_Q X b0 D true 0 0 (fun r' n' M' => r' = (some (.inl (gd (M 96) (M 95) t))) ∧ n' = n ∧ M' = M)) n M 7 [some (.inr 88), some (.inl t), some (.inl d), some (.inl i)] [] := by
    intro k
    induction k with
    | zero =>
      intro i d hk hi hd hg
      unfold gdF at hg
      refine A_ild3 hC d_Mo_good_7 ?_
      refine A_bipush hC d_Mo_good_8 (by decide) (by decide) ?_
      refine A_ild1 hC d_Mo_good_10 ?_
      refine A_imul hC d_Mo_good_11 (by omega) ?_
      refine A_ald0 hC d_Mo_good_12 ?_
      refine A_getCR (v := 95) hC d_Mo_good_13 fF_Mo_28 ⟨by decide, rfl⟩ ly_88 (by omega) ⟨rfl, by decide⟩ cv_88_8 ?_
      refine A_ild1 hC d_Mo_good_16 ?_
      refine A_iald hC d_Mo_good_17 ly_95 (by omega) (by omega) ?_
      refine A_iadd hC d_Mo_good_18 (by omega) ?_
      refine A_icmpge (tgt := 72) hC d_Mo_good_19 (by decide) (fun h19 => ?_) (fun h19 => ?_)
      · refine A_ild2 hC d_Mo_good_72 ?_
        refine A_ifne (tgt := 80) hC d_Mo_good_73 (by decide) (fun h73 => ?_) (fun h73 => ?_)
        · refine A_iconst hC d_Mo_good_80 (by decide) ?_
          refine A_zret hC d_Mo_good_81 rfl (Nat.le_refl _) (Nat.le_refl _) (by first | decide | omega) ?_
          exact ⟨fx_r (by rw [← hg]; split <;> omega), rfl, rfl⟩
        · refine A_iconst hC d_Mo_good_76 (by decide) ?_
          refine A_goto (tgt := 81) hC d_Mo_good_77 (by decide) ?_
          refine A_zret hC d_Mo_good_81 rfl (Nat.le_refl _) (Nat.le_refl _) (by first | decide | omega) ?_
          exact ⟨fx_r (by rw [← hg]; split <;> omega), rfl, rfl⟩
      · exact absurd h19 (by omega)
    | succ k ih =>
      intro i d hk hi hd hg
      unfold gdF at hg
      refine A_ild3 hC d_Mo_good_7 ?_
      refine A_bipush hC d_Mo_good_8 (by decide) (by decide) ?_
      refine A_ild1 hC d_Mo_good_10 ?_
      refine A_imul hC d_Mo_good_11 (by omega) ?_
      refine A_ald0 hC d_Mo_good_12 ?_
      refine A_getCR (v := 95) hC d_Mo_good_13 fF_Mo_28 ⟨by decide, rfl⟩ ly_88 (by omega) ⟨rfl, by decide⟩ cv_88_8 ?_
      refine A_ild1 hC d_Mo_good_16 ?_
      refine A_iald hC d_Mo_good_17 ly_95 (by omega) (by omega) ?_
      refine A_iadd hC d_Mo_good_18 (by omega) ?_
      refine A_icmpge (tgt := 72) hC d_Mo_good_19 (by decide) (fun h19 => ?_) (fun h19 => ?_)
      · exact absurd h19 (by omega)
      · refine A_ild2 hC d_Mo_good_22 ?_
        refine A_ifeq (tgt := 39) hC d_Mo_good_23 (by decide) (fun h23 => ?_) (fun h23 => ?_)
        · refine A_iconst hC d_Mo_good_39 (by decide) ?_
          refine A_zret hC d_Mo_good_40 rfl (Nat.le_refl _) (Nat.le_refl _) (by first | decide | omega) ?_
          exact ⟨fx_r (by rw [← hg]; repeat (first | rfl | omega | split)), rfl, rfl⟩
        · refine A_ald0 hC d_Mo_good_26 ?_
          refine A_ild3 hC d_Mo_good_27 ?_
          refine A_VF1 (as := [.inl i]) hC d_Mo_good_28 mv_Mo_opens lk_Mo_120 (by decide) sel_Mo_opens hq_Mo ly_88 (by omega) (k_Mo_opens l n M hn i (by omega)) rfl rfl (Nat.le_of_ble_eq_true rfl) ⟨Nat.zero_le _, Nat.zero_le _⟩ rfl ?_
          refine A_ifeq (tgt := 41) hC d_Mo_good_31 (by decide) (fun h31 => ?_) (fun h31 => ?_)
          · refine A_ald0 hC d_Mo_good_41 ?_
            refine A_ild3 hC d_Mo_good_42 ?_
            refine A_VF1 (as := [.inl i]) hC d_Mo_good_43 mv_Mo_opens lk_Mo_120 (by decide) sel_Mo_opens hq_Mo ly_88 (by omega) (k_Mo_opens l n M hn i (by omega)) rfl rfl (Nat.le_of_ble_eq_true rfl) ⟨Nat.zero_le _, Nat.zero_le _⟩ rfl ?_
            refine A_ifeq (tgt := 52) hC d_Mo_good_46 (by decide) (fun h46 => ?_) (fun h46 => ?_)
            · refine A_ald0 hC d_Mo_good_52 ?_
              refine A_getCR (v := 96) hC d_Mo_good_53 fF_Mo_31 ⟨by decide, rfl⟩ ly_88 (by omega) ⟨rfl, by decide⟩ cv_88_9 ?_
              refine A_ild3 hC d_Mo_good_56 ?_
              refine A_iald hC d_Mo_good_57 ly_96 (by omega) (by omega) ?_
              refine A_bipush hC d_Mo_good_58 (by decide) (by decide) ?_
              refine A_icmpne (tgt := 66) hC d_Mo_good_60 (by decide) (fun h60 => ?_) (fun h60 => ?_)
              · refine A_iinc3 hC d_Mo_good_66 (by omega) ?_
                refine A_goto (tgt := 7) hC d_Mo_good_69 (by decide) ?_
                exact ih (i + 1) (d) (by omega) (by omega) (by omega) (by rw [← hg]; repeat (first | omega | rfl | (congr 1; omega) | split))
              · refine A_iinc2 hC d_Mo_good_63 (by omega) ?_
                refine A_iinc3 hC d_Mo_good_66 (by omega) ?_
                refine A_goto (tgt := 7) hC d_Mo_good_69 (by decide) ?_
                exact ih (i + 1) (d + (-1)) (by omega) (by omega) (by omega) (by rw [← hg]; repeat (first | omega | rfl | (congr 1; omega) | split))
            · refine A_iinc2 hC d_Mo_good_49 (by omega) ?_
              refine A_ald0 hC d_Mo_good_52 ?_
              refine A_getCR (v := 96) hC d_Mo_good_53 fF_Mo_31 ⟨by decide, rfl⟩ ly_88 (by omega) ⟨rfl, by decide⟩ cv_88_9 ?_
              refine A_ild3 hC d_Mo_good_56 ?_
              refine A_iald hC d_Mo_good_57 ly_96 (by omega) (by omega) ?_
              refine A_bipush hC d_Mo_good_58 (by decide) (by decide) ?_
              refine A_icmpne (tgt := 66) hC d_Mo_good_60 (by decide) (fun h60 => ?_) (fun h60 => ?_)
              · refine A_iinc3 hC d_Mo_good_66 (by omega) ?_
                refine A_goto (tgt := 7) hC d_Mo_good_69 (by decide) ?_
                exact ih (i + 1) (d + 1) (by omega) (by omega) (by omega) (by rw [← hg]; repeat (first | omega | rfl | (congr 1; omega) | split))
              · refine A_iinc2 hC d_Mo_good_63 (by omega) ?_
                refine A_iinc3 hC d_Mo_good_66 (by omega) ?_
                refine A_goto (tgt := 7) hC d_Mo_good_69 (by decide) ?_
                exact ih (i + 1) (d + 1 + (-1)) (by omega) (by omega) (by omega) (by rw [← hg]; repeat (first | omega | rfl | (congr 1; omega) | split))
          · refine A_ild2 hC d_Mo_good_34 ?_
            refine A_iconst hC d_Mo_good_35 (by decide) ?_
            refine A_icmpne (tgt := 41) hC d_Mo_good_36 (by decide) (fun h36 => ?_) (fun h36 => ?_)
            · refine A_ald0 hC d_Mo_good_41 ?_
              refine A_ild3 hC d_Mo_good_42 ?_
              refine A_VF1 (as := [.inl i]) hC d_Mo_good_43 mv_Mo_opens lk_Mo_120 (by decide) sel_Mo_opens hq_Mo ly_88 (by omega) (k_Mo_opens l n M hn i (by omega)) rfl rfl (Nat.le_of_ble_eq_true rfl) ⟨Nat.zero_le _, Nat.zero_le _⟩ rfl ?_
              refine A_ifeq (tgt := 52) hC d_Mo_good_46 (by decide) (fun h46 => ?_) (fun h46 => ?_)
              · refine A_ald0 hC d_Mo_good_52 ?_
                refine A_getCR (v := 96) hC d_Mo_good_53 fF_Mo_31 ⟨by decide, rfl⟩ ly_88 (by omega) ⟨rfl, by decide⟩ cv_88_9 ?_
                refine A_ild3 hC d_Mo_good_56 ?_
                refine A_iald hC d_Mo_good_57 ly_96 (by omega) (by omega) ?_
                refine A_bipush hC d_Mo_good_58 (by decide) (by decide) ?_
                refine A_icmpne (tgt := 66) hC d_Mo_good_60 (by decide) (fun h60 => ?_) (fun h60 => ?_)
                · refine A_iinc3 hC d_Mo_good_66 (by omega) ?_
                  refine A_goto (tgt := 7) hC d_Mo_good_69 (by decide) ?_
                  exact ih (i + 1) (d) (by omega) (by omega) (by omega) (by rw [← hg]; repeat (first | omega | rfl | (congr 1; omega) | split))
                · refine A_iinc2 hC d_Mo_good_63 (by omega) ?_
                  refine A_iinc3 hC d_Mo_good_66 (by omega) ?_
                  refine A_goto (tgt := 7) hC d_Mo_good_69 (by decide) ?_
                  exact ih (i + 1) (d + (-1)) (by omega) (by omega) (by omega) (by rw [← hg]; repeat (first | omega | rfl | (congr 1; omega) | split))
              · refine A_iinc2 hC d_Mo_good_49 (by omega) ?_
                refine A_ald0 hC d_Mo_good_52 ?_
                refine A_getCR (v := 96) hC d_Mo_good_53 fF_Mo_31 ⟨by decide, rfl⟩ ly_88 (by omega) ⟨rfl, by decide⟩ cv_88_9 ?_
                refine A_ild3 hC d_Mo_good_56 ?_
                refine A_iald hC d_Mo_good_57 ly_96 (by omega) (by omega) ?_
                refine A_bipush hC d_Mo_good_58 (by decide) (by decide) ?_
                refine A_icmpne (tgt := 66) hC d_Mo_good_60 (by decide) (fun h60 => ?_) (fun h60 => ?_)
                · refine A_iinc3 hC d_Mo_good_66 (by omega) ?_
                  refine A_goto (tgt := 7) hC d_Mo_good_69 (by decide) ?_
                  exact ih (i + 1) (d + 1) (by omega) (by omega) (by omega) (by rw [← hg]; repeat (first | omega | rfl | (congr 1; omega) | split))
                · refine A_iinc2 hC d_Mo_good_63 (by omega) ?_
                  refine A_iinc3 hC d_Mo_good_66 (by omega) ?_
                  refine A_goto (tgt := 7) hC d_Mo_good_69 (by decide) ?_
                  exact ih (i + 1) (d + 1 + (-1)) (by omega) (by omega) (by omega) (by rw [← hg]; repeat (first | omega | rfl | (congr 1; omega) | split))
            · refine A_iconst hC d_Mo_good_39 (by decide) ?_
              refine A_zret hC d_Mo_good_40 rfl (Nat.le_refl _) (Nat.le_refl _) (by first | decide | omega) ?_
              exact ⟨fx_r (by rw [← hg]; repeat (first | rfl | omega | split)), rfl, rfl⟩
  refine A_iconst hC d_Mo_good_0 (by decide) ?_
  refine A_ist2 hC d_Mo_good_1 ?_
  refine A_bipush hC d_Mo_good_2 (by decide) (by decide) ?_
  refine A_ild1 hC d_Mo_good_4 ?_
  refine A_imul hC d_Mo_good_5 (by omega) ?_
  refine A_ist3 hC d_Mo_good_6 ?_
  exact loop (M 95 t).toNat (16 * t) 1 (by omega) (by omega) (by omega) rfl
