-- ===== the reference: behind, and small ones
/-- from token i with d SETS open to behind the END of the last of them -/
def bhF (op : Int → Int) : Nat → Int → Int → Int
  | 0, i, _ => i
  | f + 1, i, d => if d ≤ 0 then i else bhF op f (i + 1) (d + (if opnP (op i) then 1 else 0) - (if op i = 6 then 1 else 0))
def bhK (op : Int → Int) : Nat → Int → Int → Prop
  | 0, _, d => d ≤ 0
  | f + 1, i, d => d ≤ 0 ∨ ((0 ≤ i ∧ i ≤ 63) ∧ bhK op f (i + 1) (d + (if opnP (op i) then 1 else 0) - (if op i = 6 then 1 else 0)))
set_option maxHeartbeats 4000000 in
theorem k_Mo_behind (l : Launch) (n : Nat) (M : Mem) (hn : 117 ≤ n) (f : Nat) (j : Int) (hf : f ≤ 64) (hk : bhK (M 96) f j 1) : AF l m_Mo_behind 2 [.inr 88, .inl j] n M (some (.inl (bhF (M 96) f j 1))) M := by
  refine AM_intro (by decide) (Nat.le_of_ble_eq_true rfl) (fun X b0 D hC _ => ?_)
  show AW X b0 D true 0 0 _ n M 0 [some (.inr 88), some (.inl j), none, none] []
  have loop : ∀ (g : Nat) (i d : Int), g ≤ 64 → -1 ≤ d ∧ d + g ≤ 100 → bhK (M 96) g i d → bhF (M 96) g i d = bhF (M 96) f j 1 → AW X b0 D true 0 0 (fx_Q X b0 D true 0 0 (fun r' n' M' => r' = (some (.inl (bhF (M 96) f j 1))) ∧ n' = n ∧ M' = M)) n M 4 [some (.inr 88), some (.inl j), some (.inl d), some (.inl i)] [] := by
    intro g
    induction g with
    | zero =>
      intro i d hg hd hk hr
      have hk : d ≤ 0 := hk
      have hr : i = bhF (M 96) f j 1 := hr
      refine A_ild2 hC d_Mo_behind_4 ?_
      refine A_ifle (tgt := 39) hC d_Mo_behind_5 (by decide) (fun h5 => ?_) (fun h5 => ?_)
      · refine A_ild3 hC d_Mo_behind_39 ?_
        refine A_iret hC d_Mo_behind_40 rfl (Nat.le_refl _) (Nat.le_refl _) ?_
        exact ⟨fx_r hr, rfl, rfl⟩
      · exact absurd hk h5
    | succ g ih =>
      intro i d hg hd hk hr
      by_cases hd0 : d ≤ 0
      · have hr : i = bhF (M 96) f j 1 := by rw [← hr]; unfold bhF; rw [if_pos hd0]
        refine A_ild2 hC d_Mo_behind_4 ?_
        refine A_ifle (tgt := 39) hC d_Mo_behind_5 (by decide) (fun h5 => ?_) (fun h5 => ?_)
        · refine A_ild3 hC d_Mo_behind_39 ?_
          refine A_iret hC d_Mo_behind_40 rfl (Nat.le_refl _) (Nat.le_refl _) ?_
          exact ⟨fx_r hr, rfl, rfl⟩
        · exact absurd hd0 h5
      · obtain ⟨hi, hk2⟩ : (0 ≤ i ∧ i ≤ 63) ∧ bhK (M 96) g (i + 1) (d + (if opnP (M 96 i) then 1 else 0) - (if M 96 i = 6 then 1 else 0)) := hk.resolve_left hd0
        have hr2 : bhF (M 96) g (i + 1) (d + (if opnP (M 96 i) then 1 else 0) - (if M 96 i = 6 then 1 else 0)) = bhF (M 96) f j 1 := by
          rw [← hr]
          show _ = if d ≤ 0 then i else _
          rw [if_neg hd0]
        refine A_ild2 hC d_Mo_behind_4 ?_
        refine A_ifle (tgt := 39) hC d_Mo_behind_5 (by decide) (fun h5 => ?_) (fun h5 => ?_)
        · exact absurd h5 hd0
        · refine A_ald0 hC d_Mo_behind_8 ?_
          refine A_ild3 hC d_Mo_behind_9 ?_
          refine A_VF1 (as := [.inl i]) hC d_Mo_behind_10 mv_Mo_opens lk_Mo_120 (by decide) sel_Mo_opens hq_Mo ly_88 (by omega) (k_Mo_opens l n M hn i (by omega)) rfl rfl (Nat.le_of_ble_eq_true rfl) ⟨Nat.zero_le _, Nat.zero_le _⟩ rfl ?_
          refine A_ifeq (tgt := 19) hC d_Mo_behind_13 (by decide) (fun h13 => ?_) (fun h13 => ?_)
          · refine A_ald0 hC d_Mo_behind_19 ?_
            refine A_getCR (v := 96) hC d_Mo_behind_20 fF_Mo_31 ⟨by decide, rfl⟩ ly_88 (by omega) ⟨rfl, by decide⟩ cv_88_9 ?_
            refine A_ild3 hC d_Mo_behind_23 ?_
            refine A_iald hC d_Mo_behind_24 ly_96 (by omega) (by omega) ?_
            refine A_bipush hC d_Mo_behind_25 (by decide) (by decide) ?_
            refine A_icmpne (tgt := 33) hC d_Mo_behind_27 (by decide) (fun h27 => ?_) (fun h27 => ?_)
            · refine A_iinc3 hC d_Mo_behind_33 (by omega) ?_
              refine A_goto (tgt := 4) hC d_Mo_behind_36 (by decide) ?_
              have he : d + (if opnP (M 96 i) then 1 else 0) - (if M 96 i = 6 then 1 else 0) = d := by
                repeat (first | omega | split)
              rw [he] at hk2 hr2
              exact ih (i + 1) (d) (by omega) (by omega) hk2 hr2
            · refine A_iinc2 hC d_Mo_behind_30 (by omega) ?_
              refine A_iinc3 hC d_Mo_behind_33 (by omega) ?_
              refine A_goto (tgt := 4) hC d_Mo_behind_36 (by decide) ?_
              have he : d + (if opnP (M 96 i) then 1 else 0) - (if M 96 i = 6 then 1 else 0) = d + (-1) := by
                repeat (first | omega | split)
              rw [he] at hk2 hr2
              exact ih (i + 1) (d + (-1)) (by omega) (by omega) hk2 hr2
          · refine A_iinc2 hC d_Mo_behind_16 (by omega) ?_
            refine A_ald0 hC d_Mo_behind_19 ?_
            refine A_getCR (v := 96) hC d_Mo_behind_20 fF_Mo_31 ⟨by decide, rfl⟩ ly_88 (by omega) ⟨rfl, by decide⟩ cv_88_9 ?_
            refine A_ild3 hC d_Mo_behind_23 ?_
            refine A_iald hC d_Mo_behind_24 ly_96 (by omega) (by omega) ?_
            refine A_bipush hC d_Mo_behind_25 (by decide) (by decide) ?_
            refine A_icmpne (tgt := 33) hC d_Mo_behind_27 (by decide) (fun h27 => ?_) (fun h27 => ?_)
            · refine A_iinc3 hC d_Mo_behind_33 (by omega) ?_
              refine A_goto (tgt := 4) hC d_Mo_behind_36 (by decide) ?_
              have he : d + (if opnP (M 96 i) then 1 else 0) - (if M 96 i = 6 then 1 else 0) = d + 1 := by
                repeat (first | omega | split)
              rw [he] at hk2 hr2
              exact ih (i + 1) (d + 1) (by omega) (by omega) hk2 hr2
            · refine A_iinc2 hC d_Mo_behind_30 (by omega) ?_
              refine A_iinc3 hC d_Mo_behind_33 (by omega) ?_
              refine A_goto (tgt := 4) hC d_Mo_behind_36 (by decide) ?_
              have he : d + (if opnP (M 96 i) then 1 else 0) - (if M 96 i = 6 then 1 else 0) = d + 1 + (-1) := by
                repeat (first | omega | split)
              rw [he] at hk2 hr2
              exact ih (i + 1) (d + 1 + (-1)) (by omega) (by omega) hk2 hr2
  refine A_iconst hC d_Mo_behind_0 (by decide) ?_
  refine A_ist2 hC d_Mo_behind_1 ?_
  refine A_ild1 hC d_Mo_behind_2 ?_
  refine A_ist3 hC d_Mo_behind_3 ?_
  exact loop f j 1 hf (by omega) hk rfl
set_option maxHeartbeats 4000000 in
theorem k_Mo_kindAt (l : Launch) (n : Nat) (M : Mem) (hn : 117 ≤ n) (hB : MB M) (j : Int) (hj : 0 ≤ j ∧ j ≤ 39) (ha : 0 ≤ M 110 j ∧ M 110 j ≤ 9) (hr : 0 ≤ M 102 j ∧ M 102 j ≤ 12) (hw : 0 ≤ M 106 (10 * j + M 110 j) ∧ M 106 (10 * j + M 110 j) ≤ 3) : AF l m_Mo_kindAt 2 [.inr 88, .inl j] n M (some (.inl (M 90 (12 * M 91 (M 102 j) + 3 * M 106 (10 * j + M 110 j) + 0)))) M := by
  refine AM_intro (by decide) (Nat.le_of_ble_eq_true rfl) (fun X b0 D hC _ => ?_)
  show AW X b0 D true 0 0 _ n M 0 [some (.inr 88), some (.inl j)] []
  have hB1 := hB.1
  have hB2 := hB.2.1
  have hB3 := hB.2.2.1
  have hB4 := hB.2.2.2.1
  have hB5 := hB.2.2.2.2.1
  have hB6 := hB.2.2.2.2.2
  refine A_ald0 hC d_Mo_kindAt_0 ?_
  refine A_ald0 hC d_Mo_kindAt_1 ?_
  refine A_getCR (v := 102) hC d_Mo_kindAt_2 fF_Mo_54 ⟨by decide, rfl⟩ ly_88 (by omega) ⟨rfl, by decide⟩ cv_88_18 ?_
  refine A_ild1 hC d_Mo_kindAt_5 ?_
  refine A_iald hC d_Mo_kindAt_6 ly_102 (by omega) (by omega) ?_
  refine A_ald0 hC d_Mo_kindAt_7 ?_
  refine A_getCR (v := 106) hC d_Mo_kindAt_8 fF_Mo_66 ⟨by decide, rfl⟩ ly_88 (by omega) ⟨rfl, by decide⟩ cv_88_22 ?_
  refine A_ald0 hC d_Mo_kindAt_11 ?_
  refine A_ild1 hC d_Mo_kindAt_12 ?_
  refine A_VF1 (as := [.inl j]) hC d_Mo_kindAt_13 mv_Mo_entry lk_Mo_172 (by decide) sel_Mo_entry hq_Mo ly_88 (by omega) (k_Mo_entry l n M hn j (by omega) (by omega)) rfl rfl (Nat.le_of_ble_eq_true rfl) ⟨Nat.zero_le _, Nat.zero_le _⟩ rfl ?_
  refine A_iald hC d_Mo_kindAt_16 ly_106 (by omega) (by omega) ?_
  refine A_iconst hC d_Mo_kindAt_17 (by decide) ?_
  refine A_VF1 (as := [.inl (M 102 j), .inl (M 106 (10 * j + M 110 j)), .inl 0]) hC d_Mo_kindAt_18 mv_Mo_of lk_Mo_113 (by decide) sel_Mo_of hq_Mo ly_88 (by omega) (k_Mo_of l n M hn hB (M 102 j) (M 106 (10 * j + M 110 j)) 0 (by omega) (by omega) (by omega)) rfl rfl (Nat.le_of_ble_eq_true rfl) ⟨Nat.zero_le _, Nat.zero_le _⟩ rfl ?_
  refine A_iret hC d_Mo_kindAt_21 rfl (Nat.le_refl _) (Nat.le_refl _) ?_
  exact ⟨rfl, rfl, rfl⟩
set_option maxHeartbeats 4000000 in
theorem k_Mo_plain (l : Launch) (n : Nat) (M : Mem) (hn : 117 ≤ n) (j c : Int) (hj : 0 ≤ j ∧ j ≤ 39) (ha : 0 ≤ M 110 j ∧ M 110 j ≤ 10) (hc : 0 ≤ M 88 31 ∧ M 88 31 ≤ M 88 30 ∧ M 88 30 ≤ 120) : AF l m_Mo_plain 2 [.inr 88, .inl j, .inl c] n M (some (.inl (if M 88 30 = 120 then -5 else 0))) (mSay (up M 110 j (M 110 j + 1)) c) := by
  refine AM_intro (by decide) (Nat.le_of_ble_eq_true rfl) (fun X b0 D hC _ => ?_)
  show AW X b0 D true 0 0 _ n M 0 [some (.inr 88), some (.inl j), some (.inl c)] []
  refine A_ald0 hC d_Mo_plain_0 ?_
  refine A_getCR (v := 110) hC d_Mo_plain_1 fF_Mo_78 ⟨by decide, rfl⟩ ly_88 (by omega) ⟨rfl, by decide⟩ cv_88_26 ?_
  refine A_ild1 hC d_Mo_plain_4 ?_
  refine A_dup2 hC d_Mo_plain_5 ?_
  refine A_iald hC d_Mo_plain_6 ly_110 (by omega) (by omega) ?_
  refine A_iconst hC d_Mo_plain_7 (by decide) ?_
  refine A_iadd hC d_Mo_plain_8 (by omega) ?_
  refine A_iast hC d_Mo_plain_9 ly_110 (by omega) (by omega) (fun _ => kk_i _) ?_
  refine A_ald0 hC d_Mo_plain_10 ?_
  refine A_ild2 hC d_Mo_plain_11 ?_
  refine A_VF1 (as := [.inl c]) hC d_Mo_plain_12 mv_Mo_say lk_Mo_166 (by decide) sel_Mo_say hq_Mo ly_88 (by omega) (k_Mo_say l n (up M 110 j ((M 110 j) + 1)) hn c (by rw [up_nc (c := 110) (c' := 88) (by decide), up_nc (c := 110) (c' := 88) (by decide)]; exact hc)) rfl rfl (Nat.le_of_ble_eq_true rfl) ⟨Nat.zero_le _, Nat.zero_le _⟩ rfl ?_
  refine A_iret hC d_Mo_plain_15 rfl (Nat.le_refl _) (Nat.le_refl _) ?_
  exact ⟨fx_r (by rw [up_nc (by decide)]), rfl, rfl⟩
