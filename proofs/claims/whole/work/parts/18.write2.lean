theorem SC_of {M M' : Mem} (h : SC M) (e : ∀ c j : Int, c < 16 → M' c j = M c j) : SC M' := by
  unfold SC
  simp only [e 1 _ (by decide), e 2 _ (by decide)]
  exact h
theorem TX_of {M M' : Mem} (h : TX M) (e : ∀ c j : Int, c < 16 → M' c j = M c j) : TX M' := fun t => by rw [e 12 _ (by decide)]; exact h t
theorem wM2_5 {M : Mem} {k s c : Int} (h : 0 ≤ M 17 4) (hc : c ≠ 17) : wM2 M k s c 5 = M c 5 := by
  unfold wM2
  rw [rtM_n (Or.inr ⟨by decide, by decide⟩), tkS_5 h hc]
set_option maxHeartbeats 4000000 in
theorem k_Pl_writeOut (l : Launch) (n : Nat) (hn : 117 ≤ n) : ∀ (f : Nat) (M : Mem) (t s : Int), WI M → 62 ≤ (f : Int) + M 17 4 → 0 ≤ t ∧ t ≤ 3 → 20 ≤ s ∧ s < 20 + M 17 4 → AF l m_Pl_writeOut (7 + f) [.inr 17, .inl t, .inr s] n M (some (.inl (wO f (up M 19 t 1) t 0 s).1)) (wO f (up M 19 t 1) t 0 s).2 := by
  intro f
  induction f using Nat.strongRecOn with
  | _ f IH =>
    intro M0 t s hI0 hf0 ht hs0
    refine AM_intro (by decide) (Nat.le_of_ble_eq_true rfl) (fun X b0 D hC _ => ?_)
    show AW X b0 D true 0 0 _ n M0 0 [some (.inr 17), some (.inl t), some (.inr s), none, none, none, none] []
    have loop : ∀ (g : Nat), g ≤ f → ∀ (M : Mem) (i s : Int) (x2 x5 x6 : Option AV) (R : Int) (M1 : Mem), WI M → 62 ≤ (g : Int) + M 17 4 → 20 ≤ s → s < 20 + M 17 4 → 0 ≤ i → wO g M t i s = (R, M1) → AW X b0 D true 0 0 (fx_Q X b0 D true 0 0 (fun r' n' M' => r' = (some (.inl R)) ∧ n' = n ∧ M' = M1)) n M 12 [some (.inr 17), some (.inl t), x2, some (.inr s), some (.inl i), x5, x6] [] := by
      intro g
      induction g with
      | zero =>
        intro _ M i s x2 x5 x6 R M1 hI hf
        have := hI.2.2.2.1
        omega
      | succ g ih =>
        intro hg M i s x2 x5 x6 R M1 hI hf hs1 hs2 hi hw
        unfold wO at hw
        have hz := hI.2.2.2.1
        have hT1 := hI.2.1 t
        refine A_ild4 hC d_Pl_writeOut_12 ?_
        refine A_ald0 hC d_Pl_writeOut_14 ?_
        refine A_getCR (v := 11) hC d_Pl_writeOut_15 fF_Pl_29 ⟨by decide, rfl⟩ ly_17 (by omega) ⟨rfl, by decide⟩ cv_17_1 ?_
        refine A_getCR (v := 12) hC d_Pl_writeOut_18 fF_Pl_59 ⟨by decide, rfl⟩ ly_11 (by omega) ⟨rfl, by decide⟩ cv_11_0 ?_
        refine A_ild1 hC d_Pl_writeOut_21 ?_
        refine A_iald hC d_Pl_writeOut_22 ly_12 (by omega) (by omega) ?_
        refine A_icmpge (tgt := 173) hC d_Pl_writeOut_23 (by decide) (fun h23 => ?_) (fun h23 => ?_)
        · refine A_ald0 hC d_Pl_writeOut_173 ?_
          refine A_getCR (v := 19) hC d_Pl_writeOut_174 fF_Pl_17 ⟨by decide, rfl⟩ ly_17 (by omega) ⟨rfl, by decide⟩ cv_17_3 ?_
          refine A_ild1 hC d_Pl_writeOut_177 ?_
          refine A_iconst hC d_Pl_writeOut_178 (by decide) ?_
          refine A_zast hC d_Pl_writeOut_179 ly_19 (by omega) (by omega) (fun _ => kk_z _) (by first | decide | omega) ?_
          refine A_iconst hC d_Pl_writeOut_180 (by decide) ?_
          refine A_zret hC d_Pl_writeOut_181 rfl (Nat.le_refl _) (Nat.le_refl _) (by first | decide | omega) ?_
          rw [if_pos h23] at hw
          cases hw
          exact ⟨rfl, rfl, rfl⟩
        · refine A_ild1 hC d_Pl_writeOut_26 ?_
          refine A_bipush hC d_Pl_writeOut_27 (by decide) (by decide) ?_
          refine A_imul hC d_Pl_writeOut_29 (by omega) ?_
          refine A_ild4 hC d_Pl_writeOut_30 ?_
          refine A_iadd hC d_Pl_writeOut_32 (by omega) ?_
          refine A_ist5 hC d_Pl_writeOut_33 ?_
          refine A_ald0 hC d_Pl_writeOut_35 ?_
          refine A_getI (kI := 4) hC d_Pl_writeOut_36 fF_Pl_52 ⟨by decide, rfl⟩ rfl ly_17 (by omega) ?_
          refine A_ald0 hC d_Pl_writeOut_39 ?_
          refine A_getCR (v := 18) hC d_Pl_writeOut_40 fF_Pl_11 ⟨by decide, rfl⟩ ly_17 (by omega) ⟨rfl, by decide⟩ cv_17_2 ?_
          refine A_alen hC d_Pl_writeOut_43 ly_18 (by decide) (by decide) (by omega) ?_
          refine A_icmpge (tgt := 65) hC d_Pl_writeOut_44 (by decide) (fun h44 => ?_) (fun h44 => ?_)
          · refine A_ald0 hC d_Pl_writeOut_65 ?_
            refine A_ild5 hC d_Pl_writeOut_66 ?_
            refine A_putI (kI := 5) hC d_Pl_writeOut_68 fP_Pl_21 ⟨by decide, rfl⟩ rfl ly_17 (by omega) (fun _ => by decide) ?_
            refine A_iconst hC d_Pl_writeOut_71 (by decide) ?_
            refine A_zret hC d_Pl_writeOut_72 rfl (Nat.le_refl _) (Nat.le_refl _) (by first | decide | omega) ?_
            rw [if_neg h23, if_pos (by omega)] at hw
            cases hw
            exact ⟨rfl, rfl, rfl⟩
          · have e1 : ∀ c j : Int, c < 16 → tkS M (t * 16 + i) s c j = M c j := fun c j hc => tkS_n (by omega) (Or.inl (by omega))
            have hS5 : SC (tkS M (t * 16 + i) s) := SC_of hI.1 e1
            have hT5 : TX (tkS M (t * 16 + i) s) := TX_of hI.2.1 e1
            have h55 : tkS M (t * 16 + i) s (20 + M 17 4) 1 = 5 → 0 ≤ tkS M (t * 16 + i) s (20 + M 17 4) 2 ∧ tkS M (t * 16 + i) s (20 + M 17 4) 2 ≤ 3 := by
              rw [tkS_1 (by omega), tkS_2 (by omega)]
              exact hI.2.2.1 _
            have e2 : ∀ c j : Int, c < 16 → wM2 M (t * 16 + i) s c j = M c j := fun c j hc => wM2_n (by omega) (Or.inl (by omega))
            have hS6 : SC (wM2 M (t * 16 + i) s) := SC_of hI.1 e2
            have h3 := WI_3 (k := t * 16 + i) hI (by omega) ⟨hs1, hs2⟩
            have hz3 := wM3_z (M := M) (k := t * 16 + i) (s := s) (by omega)
            refine A_ald0 hC d_Pl_writeOut_47 ?_
            refine A_ald0 hC d_Pl_writeOut_48 ?_
            refine A_ild5 hC d_Pl_writeOut_49 ?_
            refine A_ald3 hC d_Pl_writeOut_51 ?_
            refine A_VF1 (as := [.inl ((t * 16) + i), .inr s]) hC d_Pl_writeOut_52 mv_Pl_takeStep lk_Pl_63 (by omega) sel_Pl_takeStep hq_Pl ly_17 (by omega) (k_Pl_takeStep l n M hn ((t * 16) + i) s (by omega) (by omega)) rfl rfl (Nat.le_of_ble_eq_true rfl) ⟨Nat.zero_le _, Nat.zero_le _⟩ rfl ?_
            refine A_ald3 hC d_Pl_writeOut_55 ?_
            refine A_getI (kI := 5) hC d_Pl_writeOut_56 fF_Pl_49 ⟨by decide, rfl⟩ rfl (ly_S (by omega)) (by omega) ?_
            refine A_eqi (tkS_5 (by omega) (by omega)) ?_
            refine A_VF1 (as := [.inr (20 + M 17 4), .inl (M s 5)]) hC d_Pl_writeOut_59 mv_Pl_isRight lk_Pl_67 (by omega) sel_Pl_isRight hq_Pl ly_17 (by omega) (show AF l m_Pl_isRight 5 [.inr 17, .inr (20 + M 17 4), .inl (M s 5)] n (tkS M (t * 16 + i) s) (some (.inl (wR M (t * 16 + i) s))) (wM2 M (t * 16 + i) s) from k_Pl_isRight l n _ hn hS5 hT5 _ _ (by omega) h55) rfl rfl (Nat.le_of_ble_eq_true rfl) ⟨Nat.zero_le _, Nat.zero_le _⟩ rfl ?_
            refine A_ifne (tgt := 73) hC d_Pl_writeOut_62 (by decide) (fun h62 => ?_) (fun h62 => ?_)
            · refine A_ald0 hC d_Pl_writeOut_73 ?_
              refine A_getCR (v := 18) hC d_Pl_writeOut_74 fF_Pl_11 ⟨by decide, rfl⟩ ly_17 (by omega) ⟨rfl, by decide⟩ cv_17_2 ?_
              refine A_ald0 hC d_Pl_writeOut_77 ?_
              refine A_getI (kI := 4) hC d_Pl_writeOut_78 fF_Pl_52 ⟨by decide, rfl⟩ rfl ly_17 (by omega) ?_
              refine A_eqi (wM2_z (by omega)) ?_
              refine A_iconst hC d_Pl_writeOut_81 (by decide) ?_
              refine A_isub hC d_Pl_writeOut_82 (by omega) ?_
              refine A_aaldC (v := 20 + M 17 4) hC d_Pl_writeOut_83 ly_18 (by omega) (by omega) ⟨rfl, kk_st (by omega)⟩ (by rw [cv_st]; try omega) ?_
              refine A_ast6 hC d_Pl_writeOut_84 ?_
              refine A_ald6 hC d_Pl_writeOut_86 ?_
              refine A_ald0 hC d_Pl_writeOut_88 ?_
              refine A_ald6 hC d_Pl_writeOut_89 ?_
              refine A_ald3 hC d_Pl_writeOut_91 ?_
              refine A_getI (kI := 5) hC d_Pl_writeOut_92 fF_Pl_49 ⟨by decide, rfl⟩ rfl (ly_S (by omega)) (by omega) ?_
              refine A_eqi (wM2_5 (by omega) (by omega)) ?_
              refine A_VF1 (as := [.inr (20 + M 17 4), .inl (M s 5)]) hC d_Pl_writeOut_95 mv_Pl_typeBehind lk_Pl_71 (by omega) sel_Pl_typeBehind hq_Pl ly_17 (by omega) (k_Pl_typeBehind l n (wM2 M (t * 16 + i) s) hn hS6 (20 + M 17 4) (M s 5) (by omega)) rfl rfl (Nat.le_of_ble_eq_true rfl) ⟨Nat.zero_le _, Nat.zero_le _⟩ rfl ?_
              refine A_putI (kI := 5) hC d_Pl_writeOut_98 fP_Pl_49 ⟨by decide, rfl⟩ rfl (ly_S (by omega)) (by omega) (fun _ => by decide) ?_
              show AW X b0 D true 0 0 _ n (wM3 M (t * 16 + i) s) _ _ _
              refine A_ald6 hC d_Pl_writeOut_101 ?_
              refine A_getI (kI := 1) hC d_Pl_writeOut_103 fF_Pl_36 ⟨by decide, rfl⟩ rfl (ly_S (by omega)) (by omega) ?_
              refine A_eqi (show wM3 M (t * 16 + i) s (20 + M 17 4) 1 = M 13 (t * 16 + i) by rw [wM3_s (by decide) (by decide) (by decide), tkS_1 (by omega)]) ?_
              refine A_iconst hC d_Pl_writeOut_106 (by decide) ?_
              refine A_icmpne (tgt := 126) hC d_Pl_writeOut_107 (by decide) (fun h107 => ?_) (fun h107 => ?_)
              · refine A_ald6 hC d_Pl_writeOut_126 ?_
                refine A_getI (kI := 1) hC d_Pl_writeOut_128 fF_Pl_36 ⟨by decide, rfl⟩ rfl (ly_S (by omega)) (by omega) ?_
                refine A_eqi (show wM3 M (t * 16 + i) s (20 + M 17 4) 1 = M 13 (t * 16 + i) by rw [wM3_s (by decide) (by decide) (by decide), tkS_1 (by omega)]) ?_
                refine A_bipush hC d_Pl_writeOut_131 (by decide) (by decide) ?_
                refine A_icmpne (tgt := 153) hC d_Pl_writeOut_133 (by decide) (fun h133 => ?_) (fun h133 => ?_)
                · refine A_ald6 hC d_Pl_writeOut_153 ?_
                  refine A_getI (kI := 1) hC d_Pl_writeOut_155 fF_Pl_36 ⟨by decide, rfl⟩ rfl (ly_S (by omega)) (by omega) ?_
                  refine A_eqi (show wM3 M (t * 16 + i) s (20 + M 17 4) 1 = M 13 (t * 16 + i) by rw [wM3_s (by decide) (by decide) (by decide), tkS_1 (by omega)]) ?_
                  refine A_SNF1 (as := [.inl (M 13 (t * 16 + i))]) hC d_Pl_writeOut_158 mv_G_hasSetBehind lk_Pl_84 (by omega) (k_G_hasSetBehind l n (wM3 M (t * 16 + i) s) hn (M 13 (t * 16 + i))) rfl rfl (Nat.le_of_ble_eq_true rfl) ⟨Nat.zero_le _, Nat.zero_le _⟩ rfl ?_
                  refine A_ifeq (tgt := 167) hC d_Pl_writeOut_161 (by decide) (fun h161 => ?_) (fun h161 => ?_)
                  · refine A_iinc4 hC d_Pl_writeOut_167 (by omega) ?_
                    refine A_goto (tgt := 12) hC d_Pl_writeOut_170 (by decide) ?_
                    rw [if_neg h23, if_neg (by omega), if_neg h62, if_neg h107, if_neg h133, if_neg (by omega)] at hw
                    exact ih (by omega) _ (i + 1) s _ _ _ R M1 h3 (by rw [hz3]; omega) hs1 (by rw [hz3]; omega) (by omega) hw
                  · refine A_ald6 hC d_Pl_writeOut_164 ?_
                    refine A_ast3 hC d_Pl_writeOut_166 ?_
                    refine A_iinc4 hC d_Pl_writeOut_167 (by omega) ?_
                    refine A_goto (tgt := 12) hC d_Pl_writeOut_170 (by decide) ?_
                    rw [if_neg h23, if_neg (by omega), if_neg h62, if_neg h107, if_neg h133, if_pos (by omega)] at hw
                    exact ih (by omega) _ (i + 1) (20 + M 17 4) _ _ _ R M1 h3 (by rw [hz3]; omega) (by omega) (by rw [hz3]; omega) (by omega) hw
                · refine A_ald3 hC d_Pl_writeOut_136 ?_
                  refine A_ald6 hC d_Pl_writeOut_137 ?_
                  refine A_getCI (v := M 17 4) hC d_Pl_writeOut_139 fF_Pl_78 ⟨by decide, rfl⟩ (ly_S (by omega)) (by omega) ⟨rfl, by decide⟩ (by rw [cv_S (by omega)]; try omega) ?_
                  refine A_putI (kI := 6) hC d_Pl_writeOut_142 fP_Pl_81 ⟨by decide, rfl⟩ rfl (ly_S (by omega)) (by omega) (fun _ => by decide) ?_
                  refine A_ald3 hC d_Pl_writeOut_145 ?_
                  refine A_getRE (x := (wM3 M (t * 16 + i) s) s 4) (kI := 4) hC d_Pl_writeOut_146 fF_Pl_39 ⟨by decide, rfl⟩ rfl (ly_S (by omega)) (by omega) (by rw [up_nk (k := 6) (k' := 4) (by decide)]) ?_
                  refine A_eqr (wM3_n (by omega) (Or.inl (by omega))) ?_
                  refine A_ast3 hC d_Pl_writeOut_149 ?_
                  refine A_goto (tgt := 167) hC d_Pl_writeOut_150 (by decide) ?_
                  refine A_iinc4 hC d_Pl_writeOut_167 (by omega) ?_
                  refine A_goto (tgt := 12) hC d_Pl_writeOut_170 (by decide) ?_
                  rw [if_neg h23, if_neg (by omega), if_neg h62, if_neg h107, if_pos h133] at hw
                  have ho := hI.2.2.2.2 s hs1 hs2
                  exact ih (by omega) _ (i + 1) (M s 4) _ _ _ R M1 (WI_u h3 (by omega) (Or.inr (by decide)) (Or.inr (by decide))) (by rw [up_nk (by decide), hz3]; omega) (by omega) (by rw [up_nk (by decide), hz3]; omega) (by omega) hw
              · refine A_ald0 hC d_Pl_writeOut_110 ?_
                refine A_ald6 hC d_Pl_writeOut_111 ?_
                refine A_getI (kI := 2) hC d_Pl_writeOut_113 fF_Pl_75 ⟨by decide, rfl⟩ rfl (ly_S (by omega)) (by omega) ?_
                refine A_eqi (show wM3 M (t * 16 + i) s (20 + M 17 4) 2 = M 14 (t * 16 + i) by rw [wM3_s (by decide) (by decide) (by decide), tkS_2 (by omega)]) ?_
                refine A_ald6 hC d_Pl_writeOut_116 ?_
                refine A_VF1 (as := [.inl (M 14 (t * 16 + i)), .inr (20 + M 17 4)]) hC d_Pl_writeOut_118 mv_Pl_writeOut lk_Pl_55 (by omega) sel_Pl_writeOut hq_Pl ly_17 (by omega) (IH g (by omega) (wM3 M (t * 16 + i) s) (M 14 (t * 16 + i)) (20 + M 17 4) h3 (by rw [hz3]; omega) (hI.2.2.1 _ h107) (by rw [hz3]; omega)) rfl rfl (Nat.le_of_ble_eq_true rfl) ⟨Nat.zero_le _, Nat.zero_le _⟩ rfl ?_
                refine A_ifne (tgt := 167) hC d_Pl_writeOut_121 (by decide) (fun h121 => ?_) (fun h121 => ?_)
                · refine A_iinc4 hC d_Pl_writeOut_167 (by omega) ?_
                  refine A_goto (tgt := 12) hC d_Pl_writeOut_170 (by decide) ?_
                  rw [if_neg h23, if_neg (by omega), if_neg h62, if_pos h107, if_neg h121] at hw
                  have h5 := wO_WI g _ (M 14 (t * 16 + i)) 0 (20 + M 17 4) (WI_u h3 (v := 1) (j := M 14 (t * 16 + i)) (c := 19) (by decide) (Or.inl (by decide)) (Or.inl (by decide))) (by omega) (by rw [up_nc (by decide), hz3]; omega)
                  rw [up_nc (by decide), hz3] at h5
                  exact ih (by omega) _ (i + 1) s _ _ _ R M1 h5.1 (by have := h5.2; omega) hs1 (by have := h5.2; omega) (by omega) hw
                · refine A_iconst hC d_Pl_writeOut_124 (by decide) ?_
                  refine A_zret hC d_Pl_writeOut_125 rfl (Nat.le_refl _) (Nat.le_refl _) (by first | decide | omega) ?_
                  rw [if_neg h23, if_neg (by omega), if_neg h62, if_pos h107, if_pos h121] at hw
                  cases hw
                  exact ⟨rfl, rfl, rfl⟩
            · refine A_ald0 hC d_Pl_writeOut_65 ?_
              refine A_ild5 hC d_Pl_writeOut_66 ?_
              refine A_putI (kI := 5) hC d_Pl_writeOut_68 fP_Pl_21 ⟨by decide, rfl⟩ rfl ly_17 (by omega) (fun _ => by decide) ?_
              refine A_iconst hC d_Pl_writeOut_71 (by decide) ?_
              refine A_zret hC d_Pl_writeOut_72 rfl (Nat.le_refl _) (Nat.le_refl _) (by first | decide | omega) ?_
              rw [if_neg h23, if_neg (by omega), if_pos h62] at hw
              cases hw
              exact ⟨rfl, rfl, rfl⟩
    refine A_ald2 hC d_Pl_writeOut_0 ?_
    refine A_ast3 hC d_Pl_writeOut_1 ?_
    refine A_ald0 hC d_Pl_writeOut_2 ?_
    refine A_getCR (v := 19) hC d_Pl_writeOut_3 fF_Pl_17 ⟨by decide, rfl⟩ ly_17 (by omega) ⟨rfl, by decide⟩ cv_17_3 ?_
    refine A_ild1 hC d_Pl_writeOut_6 ?_
    refine A_iconst hC d_Pl_writeOut_7 (by decide) ?_
    refine A_zast hC d_Pl_writeOut_8 ly_19 (by omega) (by omega) (fun _ => kk_z _) (by first | decide | omega) ?_
    refine A_iconst hC d_Pl_writeOut_9 (by decide) ?_
    refine A_ist4 hC d_Pl_writeOut_10 ?_
    have hIu : WI (up M0 19 t 1) := WI_u hI0 (by decide) (Or.inl (by decide)) (Or.inl (by decide))
    exact loop f (Nat.le_refl f) (up M0 19 t 1) 0 s _ _ _ _ _ hIu (by rw [up_nc (by decide)]; exact hf0) hs0.1 (by rw [up_nc (by decide)]; exact hs0.2) (by decide) rfl
