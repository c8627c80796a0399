theorem AM_mono {l : Launch} {md : MD} {g : Bool} {rk mc ms : Nat} {as : List AV} {n : Nat} {M : Mem} {p q : Option AV → Nat → Mem → Prop} (h : AMet l md g rk mc ms as n M p) (hi : ∀ r n' M', p r n' M' → q r n' M') : AMet l md g rk mc ms as n M q := fun b0 D p e ha hc hk s m args below hf hS hP hK => by
  obtain ⟨k, o, w1, w2, w3, ⟨r, n', M', v1, v2, v3, v4, v5⟩, w5⟩ := h b0 D p e ha hc hk s m args below hf hS hP hK
  exact ⟨k, o, w1, w2, w3, ⟨r, n', M', v1, v2, v3, hi r n' M' v4, v5⟩, w5⟩
theorem AX_mono {l : Launch} {md : MD} {rk : Nat} {as : List AV} {n : Nat} {M : Mem} {P Q : Int → Mem → Prop} (h : AX l md rk as n M P) (hi : ∀ v M', P v M' → Q v M') : AX l md rk as n M Q := AM_mono h (fun r n' M' ⟨h1, v, h2, h3⟩ => ⟨h1, v, h2, hi v M' h3⟩)
theorem AX_of {l : Launch} {md : MD} {rk : Nat} {as : List AV} {n : Nat} {M M1 : Mem} {v : Int} {Q : Int → Mem → Prop} (h : AF l md rk as n M (some (.inl v)) M1) (hi : n = n → Q v M1) : AX l md rk as n M Q := AM_mono h (fun r n' M' ⟨h1, h2, h3⟩ => ⟨h2, v, h1, by rw [h3]; exact hi rfl⟩)
-- ===== the reference: manyStep, step
/-- begin of a level over f, as a step of the work -/
theorem k_Mo_beginF (l : Launch) (n : Nat) (M : Mem) (hn : 117 ≤ n) (E B : Mem) (t : Int) (m : Nat) (hX : EXB E B t m) (s : SA) (f : RF) (fs : List RF) (hR : RSt E B t M s (f :: fs)) (hVA : VAL E B t m (f :: fs)) (hk : f.2.2.1 < f.2.1.length) (h1 : B (hdF f) 1 = 1) (a : Int) (ha : 0 ≤ a ∧ a < B 9 (celE B f.1 (hdF f))) : AX l m_Mo_begin 4 [.inr 88, .inl (B 10 (celE B f.1 (hdF f) * 4 + a))] n M (fun v M' => OUT E B t (bgn B s (B 10 (celE B f.1 (hdF f) * 4 + a)) (f.2.1.getD f.2.2.1 []) (f :: fs)) v M M') := by
  obtain ⟨hT, hCD, h17, hF, hFS⟩ := id hR
  obtain ⟨c1, c2, c3, c4, c5, c6⟩ := CHILD hX hF hVA.1 hk h1 ha
  obtain ⟨SL, hRL, hSL, hl60, hrb⟩ := hF.2.1
  generalize B 10 (celE B f.1 (hdF f) * 4 + a) = r at c2 c3 c6 ⊢
  have h17' : M 88 17 = (fs.length : Int) + 1 := by rw [h17]; simp
  have hb := k_Mo_begin l n M hn E B t m hX.1 hT.2.2.1 ((fs.length : Int) + 1) (E 7 (r - 1)) r h17' c3 (hT.2.2.2.1 r c3.1 c3.2) s hCD (f.2.1.getD f.2.2.1 []) c1 c2 (by omega) f.2.1 SL (by rw [show (fs.length : Int) + 1 - 1 = (fs.length : Int) by omega]; exact hRL) hSL hl60 f.2.2.1 hk (by rw [show (fs.length : Int) + 1 - 1 = (fs.length : Int) by omega]; exact hF.2.2.1.1) rfl h1
  refine AX_mono hb (fun v M' h => BEG_bgn hX c1 hT ⟨hF, hFS⟩ c6 ?_)
  rw [show (((f :: fs).length : Nat) : Int) = (fs.length : Int) + 1 by simp]
  exact h
set_option maxHeartbeats 4000000 in
theorem k_Mo_manyStep (l : Launch) (n : Nat) (M : Mem) (hn : 117 ≤ n) (E B : Mem) (t : Int) (m : Nat) (hX : EXB E B t m) (s : SA) (f : RF) (fs : List RF) (hR : RSt E B t M s (f :: fs)) (hVA : VAL E B t m (f :: fs)) (hl : fs.length ≤ 12) (him : 0 ≤ f.2.2.2.1) (j : Int) (hj : j = (fs.length : Int)) : AX l m_Mo_manyStep 5 [.inr 88, .inl j] n M (fun v M' => OUT E B t (manS B s f fs) v M M') := by
  refine AM_intro (by decide) (Nat.le_of_ble_eq_true rfl) (fun X b0 D hC _ => ?_)
  show AW X b0 D true 0 0 _ n M 0 [some (.inr 88), some (.inl j), none] []
  obtain ⟨hT, hCD, h17, hF, hFS⟩ := id hR
  have hcd := CD_b hCD
  rw [← hj] at hF
  have hV := hVA.1
  have h110 := hF.2.2.1.1
  have h111 := hF.2.2.1.2.1
  have h102 := hF.1
  have hl10 := hF.2.2.2.1
  have hrow := hV.1
  obtain ⟨hi0, hk, h1, h7, hi9⟩ := hV.2.2.2.2.resolve_left (by omega)
  have h9b := hX.2.1.2.1 (celE B f.1 (hdF f))
  have h106 : M 106 (10 * j + M 110 j) = B (hdF f) 3 := (RFR_h hF hk).2.2 (by omega)
  have hb := (FV_h hX.1 hV hk).2.2.2.2 (by omega)
  have hkO := (REF_k hX.1 hT hF hV hk (by omega)).2.2.2
  obtain ⟨SL0, -, -, -, hrb⟩ := hF.2.1
  have hvr := (hT.2.2.2.2.1 f.1 (B (hdF f) 3) hrow.1 hrb hb.1 hb.2).2 (by omega)
  have h92 : M 92 (4 * f.1 + B (hdF f) 3) = B 9 (celE B f.1 (hdF f)) := by rw [hvr.1]; exact (EXB_e hX (by decide) _).symm
  have h93 : f.2.2.2.1 < B 9 (celE B f.1 (hdF f)) → M 93 (4 * (4 * f.1 + B (hdF f) 3) + f.2.2.2.1) = B 10 (celE B f.1 (hdF f) * 4 + f.2.2.2.1) := fun w => by
    rw [hvr.2 _ hi0 (by rw [← EXB_e hX (by decide)]; exact w)]
    exact (EXB_e hX (by decide) _).symm
  refine A_iconst hC d_Mo_manyStep_0 (by decide) ?_
  refine A_ald0 hC d_Mo_manyStep_1 ?_
  refine A_getCR (v := 102) hC d_Mo_manyStep_2 fF_Mo_54 ⟨by decide, rfl⟩ ly_88 (by omega) ⟨rfl, by decide⟩ cv_88_18 ?_
  refine A_ild1 hC d_Mo_manyStep_5 ?_
  refine A_iald hC d_Mo_manyStep_6 ly_102 (by omega) (by omega) ?_
  refine A_eqi h102 ?_
  refine A_imul hC d_Mo_manyStep_7 (by omega) ?_
  refine A_ald0 hC d_Mo_manyStep_8 ?_
  refine A_getCR (v := 106) hC d_Mo_manyStep_9 fF_Mo_66 ⟨by decide, rfl⟩ ly_88 (by omega) ⟨rfl, by decide⟩ cv_88_22 ?_
  refine A_ald0 hC d_Mo_manyStep_12 ?_
  refine A_ild1 hC d_Mo_manyStep_13 ?_
  refine A_VF1 (as := [.inl j]) hC d_Mo_manyStep_14 mv_Mo_entry lk_Mo_172 (by decide) sel_Mo_entry hq_Mo ly_88 (by omega) (k_Mo_entry l n M hn j (by omega) (by omega)) rfl rfl (Nat.le_of_ble_eq_true rfl) ⟨Nat.zero_le _, Nat.zero_le _⟩ rfl ?_
  refine A_iald hC d_Mo_manyStep_17 ly_106 (by omega) (by omega) ?_
  refine A_eqi h106 ?_
  refine A_iadd hC d_Mo_manyStep_18 (by omega) ?_
  refine A_ist2 hC d_Mo_manyStep_19 ?_
  refine A_ald0 hC d_Mo_manyStep_20 ?_
  refine A_getCR (v := 111) hC d_Mo_manyStep_21 fF_Mo_81 ⟨by decide, rfl⟩ ly_88 (by omega) ⟨rfl, by decide⟩ cv_88_27 ?_
  refine A_ild1 hC d_Mo_manyStep_24 ?_
  refine A_iald hC d_Mo_manyStep_25 ly_111 (by omega) (by omega) ?_
  refine A_eqi h111 ?_
  refine A_ald0 hC d_Mo_manyStep_26 ?_
  refine A_getCR (v := 92) hC d_Mo_manyStep_27 fF_Mo_19 ⟨by decide, rfl⟩ ly_88 (by omega) ⟨rfl, by decide⟩ cv_88_5 ?_
  refine A_ild2 hC d_Mo_manyStep_30 ?_
  refine A_iald hC d_Mo_manyStep_31 ly_92 (by omega) (by omega) ?_
  refine A_eqi h92 ?_
  refine A_icmpge (tgt := 55) hC d_Mo_manyStep_32 (by decide) (fun h32 => ?_) (fun h32 => ?_)
  · refine A_ald0 hC d_Mo_manyStep_55 ?_
    refine A_getCR (v := 111) hC d_Mo_manyStep_56 fF_Mo_81 ⟨by decide, rfl⟩ ly_88 (by omega) ⟨rfl, by decide⟩ cv_88_27 ?_
    refine A_ild1 hC d_Mo_manyStep_59 ?_
    refine A_iconst hC d_Mo_manyStep_60 (by decide) ?_
    refine A_iast hC d_Mo_manyStep_61 ly_111 (by omega) (by omega) (fun _ => kk_i _) ?_
    refine A_ald0 hC d_Mo_manyStep_62 ?_
    refine A_getCR (v := 110) hC d_Mo_manyStep_63 fF_Mo_78 ⟨by decide, rfl⟩ ly_88 (by omega) ⟨rfl, by decide⟩ cv_88_26 ?_
    refine A_ild1 hC d_Mo_manyStep_66 ?_
    refine A_dup2 hC d_Mo_manyStep_67 ?_
    refine A_ialdE (x := M 110 j) hC d_Mo_manyStep_68 ly_110 (by omega) (by omega) (by rw [up_nc (c := 111) (c' := 110) (by decide)]) ?_
    refine A_eqi h110 ?_
    refine A_iconst hC d_Mo_manyStep_69 (by decide) ?_
    refine A_iadd hC d_Mo_manyStep_70 (by omega) ?_
    refine A_iast hC d_Mo_manyStep_71 ly_110 (by omega) (by omega) (fun _ => kk_i _) ?_
    have hfI : fL j M (up (up M 111 j (-1)) 110 j ((f.2.2.1 : Int) + 1)) := fun c y q => by rw [up_nc_or (by omega), up_nc_or (by omega)]
    have hRI : RSt E B t (up (up M 111 j (-1)) 110 j ((f.2.2.1 : Int) + 1)) s (nxtF (imF f (-1)) :: fs) := by
      refine ⟨REFT_f (fL_le (by omega) hfI) hT, CD_eq (fun c y q => by rw [up_nc (by omega), up_nc (by omega)]) hCD, by rw [up_nc (by decide), up_nc (by decide)]; exact h17, ?_, RFS_f (by omega) hfI hFS⟩
      rw [← hj]
      exact RFR_set (fun c y c1 c2 c3 c4 c5 => by rw [up_nc c3, up_nc c4]) (up_eq _ _ _ _) (by rw [up_nc (by decide), up_eq]; rfl) (by rw [up_nc (by decide), up_nc (by decide)]; exact hF.2.2.1.2.2.2) hF
    have hcdI := CD_b hRI.2.1
    refine A_ald0 hC d_Mo_manyStep_72 ?_
    refine A_iconst hC d_Mo_manyStep_73 (by decide) ?_
    refine A_VF1 (as := [.inl 5]) hC d_Mo_manyStep_74 mv_Mo_say lk_Mo_166 (by decide) sel_Mo_say hq_Mo ly_88 (by omega) (k_Mo_say l n (up (up M 111 j (-1)) 110 j ((f.2.2.1 : Int) + 1)) hn 5 hcdI) rfl rfl (Nat.le_of_ble_eq_true rfl) ⟨Nat.zero_le _, Nat.zero_le _⟩ rfl ?_
    refine A_iret hC d_Mo_manyStep_77 rfl (Nat.le_refl _) (Nat.le_refl _) ?_
    refine ⟨rfl, _, rfl, fL_t (fL_le (by omega) hfI) fL_say, ?_⟩
    unfold manS
    rw [if_neg (by omega)]
    rcases CD_say hRI.2.1 5 with ⟨s1, g1, g2, g3, -, -⟩ | ⟨g1, g2⟩
    · rw [g1]
      exact ⟨if_neg g2, RSt_say hRI g3⟩
    · rw [g1]
      exact if_pos g2
  · refine A_ald0 hC d_Mo_manyStep_35 ?_
    refine A_ald0 hC d_Mo_manyStep_36 ?_
    refine A_getCR (v := 93) hC d_Mo_manyStep_37 fF_Mo_22 ⟨by decide, rfl⟩ ly_88 (by omega) ⟨rfl, by decide⟩ cv_88_6 ?_
    refine A_iconst hC d_Mo_manyStep_40 (by decide) ?_
    refine A_ild2 hC d_Mo_manyStep_41 ?_
    refine A_imul hC d_Mo_manyStep_42 (by omega) ?_
    refine A_ald0 hC d_Mo_manyStep_43 ?_
    refine A_getCR (v := 111) hC d_Mo_manyStep_44 fF_Mo_81 ⟨by decide, rfl⟩ ly_88 (by omega) ⟨rfl, by decide⟩ cv_88_27 ?_
    refine A_ild1 hC d_Mo_manyStep_47 ?_
    refine A_iald hC d_Mo_manyStep_48 ly_111 (by omega) (by omega) ?_
    refine A_eqi h111 ?_
    refine A_iadd hC d_Mo_manyStep_49 (by omega) ?_
    refine A_iald hC d_Mo_manyStep_50 ly_93 (by omega) (by omega) ?_
    refine A_eqi (h93 (by omega)) ?_
    refine A_VX (as := [.inl (B 10 (celE B f.1 (hdF f) * 4 + f.2.2.2.1))]) hC d_Mo_manyStep_51 mv_Mo_begin lk_Mo_188 (by decide) sel_Mo_begin hq_Mo ly_88 (by omega) (k_Mo_beginF l n M hn E B t m hX s f fs hR hVA hk h1 f.2.2.2.1 (by omega)) rfl rfl (Nat.le_of_ble_eq_true rfl) ⟨Nat.zero_le _, Nat.zero_le _⟩ rfl (fun v N1 hv => ?_)
    refine A_iret hC d_Mo_manyStep_54 rfl (Nat.le_refl _) (Nat.le_refl _) ?_
    refine ⟨rfl, _, rfl, ?_⟩
    unfold manS
    rw [if_pos (by omega)]
    exact hv
set_option maxHeartbeats 4000000 in
theorem k_Mo_step (l : Launch) (n : Nat) (M : Mem) (hn : 117 ≤ n) (E B : Mem) (t : Int) (m : Nat) (hX : EXB E B t m) (s : SA) (f : RF) (fs : List RF) (hR : RSt E B t M s (f :: fs)) (hVA : VAL E B t m (f :: fs)) (hl : fs.length ≤ 12) (hSt : STK (s.1.length : Int) (f :: fs)) (h60 : 2 * (s.2.2.length : Int) ≤ s.2.1) : AX l m_Mo_step 6 [.inr 88] n M (fun v M' => OUT E B t (stp B s f fs) v M M') := by
  refine AM_intro (by decide) (Nat.le_of_ble_eq_true rfl) (fun X b0 D hC _ => ?_)
  show AW X b0 D true 0 0 _ n M 0 [some (.inr 88), none, none, none] []
  obtain ⟨j, hj⟩ : ∃ j : Int, j = (fs.length : Int) := ⟨_, rfl⟩
  obtain ⟨hT, hCD, h17, hF, hFS⟩ := id hR
  have hcd := CD_b hCD
  rw [← hj] at hF
  have hV := hVA.1
  have h110 := hF.2.2.1.1
  have h111 := hF.2.2.1.2.1
  have h102 := hF.1
  have hl10 := hF.2.2.2.1
  have hrow := hV.1
  have h17' : M 88 17 = j + 1 := by rw [h17, hj]; simp
  have h103 : M 103 j = (f.2.1.length : Int) := by obtain ⟨SL, hRL, -⟩ := hF.2.1; exact hRL.1.1
  have hkl := hV.2.2.1
  have him := hV.2.2.2.2
  show AW X b0 D true 0 0 (fx_Q X b0 D true 0 0 (fun r' n' M' => n' = n ∧ ∃ v : Int, r' = some (.inl v) ∧ OUT E B t (stp B s f fs) v M M')) n M 0 [some (.inr 88), none, none, none] []
  have part66 : f.2.2.1 < f.2.1.length → f.2.2.2.1 = -1 → ∀ (N : Mem) (s1 : SA), RSt E B t N s1 (f :: fs) → fL 0 M N → s1.2.2.length ≤ 60 → (∀ v N', OUT E B t (valS B s1 f fs) v N N' → OUT E B t (stp B s f fs) v M N') → AW X b0 D true 0 0 (fx_Q X b0 D true 0 0 (fun r' n' M' => n' = n ∧ ∃ v : Int, r' = some (.inl v) ∧ OUT E B t (stp B s f fs) v M M')) n N 66 [some (.inr 88), some (.inl j), some (.inl 0), none] [] := by
    intro hk hi1 N s1 hRN hfN hp60 hK
    obtain ⟨gT, gCD, g17, gF, gFS⟩ := id hRN
    rw [← hj] at gF
    have gcd := CD_b gCD
    have g110 := gF.2.2.1.1
    have g102 := gF.1
    have g105 : N 105 (10 * j + N 110 j) = B (hdF f) 1 := (RFR_h gF hk).2.1
    have g91 : N 91 f.1 = B 7 (f.1 - 1) := by rw [gT.2.2.2.1 f.1 hrow.1 hrow.2]; exact (EXB_e hX (by decide) _).symm
    have ghd := FV_h hX.1 hV hk
    have g91b := gT.2.1.2.2.2.1 f.1
    have ENT1 : ¬ B (hdF f) 1 = 2 → N 106 (10 * j + N 110 j) = B (hdF f) 3 := fun w => (RFR_h gF hk).2.2 w
    have gkd := fun w : ¬ B (hdF f) 1 = 2 => REF_k hX.1 gT gF hV hk w
    have gMB := gT.2.1
    have go1 : ¬ B (hdF f) 1 = 2 → B (hdF f) 1 = 0 ∨ B (hdF f) 1 = 1 := fun w => by rcases ghd.2.1 with q | q | q; exact Or.inl q; exact Or.inr q; exact absurd q w
    have gty := gF.2.2.2.2 _ ghd.1
    have g106r : ¬ B (hdF f) 1 = 2 → 0 ≤ N 106 (10 * j + N 110 j) ∧ N 106 (10 * j + N 110 j) ≤ 3 := fun w => by rw [ENT1 w]; exact ghd.2.2.2.2 w
    have g102r : 0 ≤ N 102 j ∧ N 102 j ≤ 12 := by rw [g102]; omega
    have plain : ∀ (N2 : Mem) (s2 : SA) (f2 : RF) (c : Int), RSt E B t N2 s2 (f2 :: fs) → 0 ≤ N2 110 j ∧ N2 110 j ≤ 10 → AX l m_Mo_plain 2 [.inr 88, .inl j, .inl c] n N2 (fun v N' => OUT E B t (plnS c s2 f2 fs) v N2 N') := fun N2 s2 f2 c hq hr => by
      have h := k_Mo_plain l n N2 hn j c (by omega) hr (CD_b hq.2.1)
      refine AX_of h (fun _ => ?_)
      rw [hj]
      exact OUT_pln hq
    refine A_ald0 hC d_Mo_step_66 ?_
    refine A_getCR (v := 105) hC d_Mo_step_67 fF_Mo_63 ⟨by decide, rfl⟩ ly_88 (by omega) ⟨rfl, by decide⟩ cv_88_21 ?_
    refine A_ald0 hC d_Mo_step_70 ?_
    refine A_ild1 hC d_Mo_step_71 ?_
    refine A_VF1 (as := [.inl j]) hC d_Mo_step_72 mv_Mo_entry lk_Mo_172 (by decide) sel_Mo_entry hq_Mo ly_88 (by omega) (k_Mo_entry l n N hn j (by omega) (by omega)) rfl rfl (Nat.le_of_ble_eq_true rfl) ⟨Nat.zero_le _, Nat.zero_le _⟩ rfl ?_
    refine A_iald hC d_Mo_step_75 ly_105 (by omega) (by omega) ?_
    refine A_eqi g105 ?_
    refine A_iconst hC d_Mo_step_76 (by decide) ?_
    refine A_icmpne (tgt := 101) hC d_Mo_step_77 (by decide) (fun h77 => ?_) (fun h77 => ?_)
    · have hgb := ghd.2.2.2.2 h77
      have h7B := hX.2.1.2.1 (celE B f.1 (hdF f))
      refine A_iconst hC d_Mo_step_101 (by decide) ?_
      refine A_ald0 hC d_Mo_step_102 ?_
      refine A_getCR (v := 102) hC d_Mo_step_103 fF_Mo_54 ⟨by decide, rfl⟩ ly_88 (by omega) ⟨rfl, by decide⟩ cv_88_18 ?_
      refine A_ild1 hC d_Mo_step_106 ?_
      refine A_iald hC d_Mo_step_107 ly_102 (by omega) (by omega) ?_
      refine A_eqi g102 ?_
      refine A_imul hC d_Mo_step_108 (by omega) ?_
      refine A_ald0 hC d_Mo_step_109 ?_
      refine A_getCR (v := 106) hC d_Mo_step_110 fF_Mo_66 ⟨by decide, rfl⟩ ly_88 (by omega) ⟨rfl, by decide⟩ cv_88_22 ?_
      refine A_ald0 hC d_Mo_step_113 ?_
      refine A_ild1 hC d_Mo_step_114 ?_
      refine A_VF1 (as := [.inl j]) hC d_Mo_step_115 mv_Mo_entry lk_Mo_172 (by decide) sel_Mo_entry hq_Mo ly_88 (by omega) (k_Mo_entry l n N hn j (by omega) (by omega)) rfl rfl (Nat.le_of_ble_eq_true rfl) ⟨Nat.zero_le _, Nat.zero_le _⟩ rfl ?_
      refine A_iald hC d_Mo_step_118 ly_106 (by omega) (by omega) ?_
      refine A_eqi (ENT1 h77) ?_
      refine A_iadd hC d_Mo_step_119 (by omega) ?_
      refine A_ist3 hC d_Mo_step_120 ?_
      refine A_ald0 hC d_Mo_step_121 ?_
      refine A_ild1 hC d_Mo_step_122 ?_
      refine A_VF1 (as := [.inl j]) hC d_Mo_step_123 mv_Mo_kindAt lk_Mo_178 (by decide) sel_Mo_kindAt hq_Mo ly_88 (by omega) (k_Mo_kindAt l n N hn gMB j (by omega) (by omega) g102r (g106r h77)) rfl rfl (Nat.le_of_ble_eq_true rfl) ⟨Nat.zero_le _, Nat.zero_le _⟩ rfl ?_
      refine A_eqi (gkd h77).2.1 ?_
      refine A_iconst hC d_Mo_step_126 (by decide) ?_
      refine A_icmpne (tgt := 143) hC d_Mo_step_127 (by decide) (fun h127 => ?_) (fun h127 => ?_)
      · have hkO := (gkd h77).2.2.2
        obtain ⟨SL0, -, -, -, hrb⟩ := gF.2.1
        have hvr := gT.2.2.2.2.1 f.1 (B (hdF f) 3) hrow.1 hrb hgb.1 hgb.2
        have e8 : B 8 (celE B f.1 (hdF f)) = E 8 ((f.1 - 1) * 4 + B (hdF f) 3) := EXB_e hX (by decide) _
        have e9 : B 9 (celE B f.1 (hdF f)) = E 9 ((f.1 - 1) * 4 + B (hdF f) 3) := EXB_e hX (by decide) _
        have h8r := hX.2.1.1 (celE B f.1 (hdF f))
        have go := go1 h77
        have g7 : (B (hdF f) 1 = 0 ∧ B (hdF f) 7 = 0) ∨ (B (hdF f) 1 = 1 ∧ B (hdF f) 7 = 1) := by
          rcases go with q | q
          · exact Or.inl ⟨q, gty.2.2 q⟩
          · exact Or.inr ⟨q, (gty.2.1 q).2.resolve_right h127⟩
        rw [hkO, ← e8, ← e9] at hvr
        refine A_ald0 hC d_Mo_step_143 ?_
        refine A_getCR (v := 92) hC d_Mo_step_144 fF_Mo_19 ⟨by decide, rfl⟩ ly_88 (by omega) ⟨rfl, by decide⟩ cv_88_5 ?_
        refine A_ild3 hC d_Mo_step_147 ?_
        refine A_iald hC d_Mo_step_148 ly_92 (by omega) (by omega) ?_
        refine A_ifne (tgt := 165) hC d_Mo_step_149 (by decide) (fun h149 => ?_) (fun h149 => ?_)
        · refine A_ald0 hC d_Mo_step_165 ?_
          refine A_ild1 hC d_Mo_step_166 ?_
          refine A_VF1 (as := [.inl j]) hC d_Mo_step_167 mv_Mo_kindAt lk_Mo_178 (by decide) sel_Mo_kindAt hq_Mo ly_88 (by omega) (k_Mo_kindAt l n N hn gMB j (by omega) (by omega) g102r (g106r h77)) rfl rfl (Nat.le_of_ble_eq_true rfl) ⟨Nat.zero_le _, Nat.zero_le _⟩ rfl ?_
          refine A_eqi (gkd h77).2.1 ?_
          refine A_ifne (tgt := 193) hC d_Mo_step_170 (by decide) (fun h170 => ?_) (fun h170 => ?_)
          · have hq1 : B (hdF f) 1 = 1 ∧ B (hdF f) 7 = 1 := by omega
            have ho1 := hq1.1
            have h9p : 0 < B 9 (celE B f.1 (hdF f)) := by
              have := (hvr.2 (Or.inl hq1.2)).1
              omega
            have h93l : N 93 (4 * (4 * f.1 + B (hdF f) 3)) = B 10 (celE B f.1 (hdF f) * 4 + 0) := by
              have := (hvr.2 (Or.inl hq1.2)).2 0 (by omega) h9p
              rw [Int.add_zero] at this
              rw [this]
              exact (EXB_e hX (by decide) _).symm
            refine A_ald0 hC d_Mo_step_193 ?_
            refine A_ald0 hC d_Mo_step_194 ?_
            refine A_getCR (v := 93) hC d_Mo_step_195 fF_Mo_22 ⟨by decide, rfl⟩ ly_88 (by omega) ⟨rfl, by decide⟩ cv_88_6 ?_
            refine A_iconst hC d_Mo_step_198 (by decide) ?_
            refine A_ild3 hC d_Mo_step_199 ?_
            refine A_imul hC d_Mo_step_200 (by omega) ?_
            refine A_iald hC d_Mo_step_201 ly_93 (by omega) (by omega) ?_
            refine A_eqi h93l ?_
            refine A_VX (as := [.inl (B 10 (celE B f.1 (hdF f) * 4 + 0))]) hC d_Mo_step_202 mv_Mo_begin lk_Mo_188 (by decide) sel_Mo_begin hq_Mo ly_88 (by omega) (k_Mo_beginF l n N hn E B t m hX s1 f fs hRN hVA hk ho1 0 (by omega)) rfl rfl (Nat.le_of_ble_eq_true rfl) ⟨Nat.zero_le _, Nat.zero_le _⟩ rfl (fun v N1 hv => ?_)
            refine A_iret hC d_Mo_step_205 rfl (Nat.le_refl _) (Nat.le_refl _) ?_
            refine ⟨rfl, _, rfl, hK v N1 ?_⟩
            unfold valS
            rw [if_neg h77, if_neg h127, if_pos hq1.2, if_neg (by omega)]
            exact hv
          · have hq0 : B (hdF f) 1 = 0 ∧ B (hdF f) 7 = 0 := by omega
            have h8n : B 8 (celE B f.1 (hdF f)) ≠ -1 := fun w => h149 ((hvr.1 hq0.2).1 w)
            have h93n : N 93 (4 * (4 * f.1 + B (hdF f) 3)) = B 8 (celE B f.1 (hdF f)) := ((hvr.1 hq0.2).2 h8n).2
            refine A_ald0 hC d_Mo_step_173 ?_
            refine A_ild1 hC d_Mo_step_174 ?_
            refine A_sipush hC d_Mo_step_175 (by decide) (by decide) ?_
            refine A_ald0 hC d_Mo_step_178 ?_
            refine A_getCR (v := 93) hC d_Mo_step_179 fF_Mo_22 ⟨by decide, rfl⟩ ly_88 (by omega) ⟨rfl, by decide⟩ cv_88_6 ?_
            refine A_iconst hC d_Mo_step_182 (by decide) ?_
            refine A_ild3 hC d_Mo_step_183 ?_
            refine A_imul hC d_Mo_step_184 (by omega) ?_
            refine A_iald hC d_Mo_step_185 ly_93 (by omega) (by omega) ?_
            refine A_eqi h93n ?_
            refine A_iadd hC d_Mo_step_186 (by omega) ?_
            refine A_VX (as := [.inl j, .inl (1000 + (B 8 (celE B f.1 (hdF f))))]) hC d_Mo_step_187 mv_Mo_plain lk_Mo_198 (by decide) sel_Mo_plain hq_Mo ly_88 (by omega) (plain N s1 f (1000 + (B 8 (celE B f.1 (hdF f)))) hRN (by omega)) rfl rfl (Nat.le_of_ble_eq_true rfl) ⟨Nat.zero_le _, Nat.zero_le _⟩ rfl (fun v N1 hv => ?_)
            refine A_goto (tgt := 205) hC d_Mo_step_190 (by decide) ?_
            refine A_iret hC d_Mo_step_205 rfl (Nat.le_refl _) (Nat.le_refl _) ?_
            refine ⟨rfl, _, rfl, hK v N1 ?_⟩
            unfold valS
            rw [if_neg h77, if_neg h127, if_neg (by omega), if_neg h8n]
            exact hv
        · have hnoth : AR l m_Mo_nothing 4 [.inr 88, .inl j, .inl 1] n N none (fun M' => (B (hdF f) 8 = 0 → M' = N) ∧ (¬ B (hdF f) 8 = 0 → M' 113 j = 1 ∧ (∀ c y : Int, ¬ (c = 115 ∨ c = 116 ∨ (c = 88 ∧ y = 33) ∨ (c = 113 ∧ y = j)) → M' c y = N c y) ∧ CD M' (s1.1, s1.2.1, s1.2.2 ++ [preF B fs ++ [B (hdF f) 2]]))) := by rw [hj]; exact k_Mo_nothing1 l n N hn E B t m hX s1 hp60 f fs hRN hVA hk h77 hl
          have hval : valS B s1 f fs = nonS B s1 f fs := by
            unfold valS
            rw [if_neg h77, if_neg h127]
            rcases g7 with q | q
            · rw [if_neg (by omega), if_pos]
              apply Classical.byContradiction
              intro w
              exact ((hvr.1 q.2).2 w).1 h149
            · rw [if_pos q.2, if_pos (by rw [← (hvr.2 (Or.inl q.2)).1]; exact h149)]
          refine A_ald0 hC d_Mo_step_152 ?_
          refine A_ild1 hC d_Mo_step_153 ?_
          refine A_iconst hC d_Mo_step_154 (by decide) ?_
          refine A_VR0 (as := [.inl j, .inl 1]) hC d_Mo_step_155 mv_Mo_nothing lk_Mo_184 (by decide) sel_Mo_nothing hq_Mo ly_88 (by omega) (hnoth) rfl rfl (Nat.le_of_ble_eq_true rfl) ⟨Nat.zero_le _, Nat.zero_le _⟩ rfl (fun N2 hN2 => ?_)
          have hfN2 : fL j N N2 := fun c y q => by
            by_cases h8 : B (hdF f) 8 = 0
            · rw [hN2.1 h8]
            · rw [(hN2.2 h8).2.1 c y (by omega)]
          obtain ⟨s2, f2, hR2, hn2⟩ : ∃ (s2 : SA) (f2 : RF), RSt E B t N2 s2 (f2 :: fs) ∧ nonS B s1 f fs = plnS 1 s2 f2 fs := by
            by_cases h8 : B (hdF f) 8 = 0
            · exact ⟨s1, f, by rw [hN2.1 h8]; exact hRN, by unfold nonS; rw [if_pos h8]⟩
            · obtain ⟨q1, q2, q3⟩ := hN2.2 h8
              refine ⟨_, badF f 1, ⟨REFT_f (fL_le (by omega) hfN2) gT, q3, by rw [q2 88 17 (by omega)]; exact g17, ?_, RFS_f (by omega) hfN2 gFS⟩, by unfold nonS; rw [if_neg h8]⟩
              rw [← hj]
              exact RFR_set (fun c y c1 c2 c3 c4 c5 => q2 c y (by omega)) (by rw [q2 110 j (by omega)]; exact g110) (by rw [q2 111 j (by omega)]; exact gF.2.2.1.2.1) q1 gF
          have h110n : N2 110 j = N 110 j := by
            by_cases h8 : B (hdF f) 8 = 0
            · rw [hN2.1 h8]
            · rw [(hN2.2 h8).2.1 110 j (by omega)]
          have hplain1 := plain N2 s2 f2 1 hR2 (by omega)
          refine A_ald0 hC d_Mo_step_158 ?_
          refine A_ild1 hC d_Mo_step_159 ?_
          refine A_iconst hC d_Mo_step_160 (by decide) ?_
          refine A_VX (as := [.inl j, .inl 1]) hC d_Mo_step_161 mv_Mo_plain lk_Mo_198 (by decide) sel_Mo_plain hq_Mo ly_88 (by omega) (hplain1) rfl rfl (Nat.le_of_ble_eq_true rfl) ⟨Nat.zero_le _, Nat.zero_le _⟩ rfl (fun v N1 hv => ?_)
          refine A_iret hC d_Mo_step_164 rfl (Nat.le_refl _) (Nat.le_refl _) ?_
          refine ⟨rfl, _, rfl, hK v N1 ?_⟩
          rw [hval, hn2]
          exact ⟨fL_t (fL_le (by omega) hfN2) hv.1, hv.2⟩
      · refine A_ald0 hC d_Mo_step_130 ?_
        refine A_getCR (v := 111) hC d_Mo_step_131 fF_Mo_81 ⟨by decide, rfl⟩ ly_88 (by omega) ⟨rfl, by decide⟩ cv_88_27 ?_
        refine A_ild1 hC d_Mo_step_134 ?_
        refine A_iconst hC d_Mo_step_135 (by decide) ?_
        refine A_iast hC d_Mo_step_136 ly_111 (by omega) (by omega) (fun _ => kk_i _) ?_
        have hf0 : fL j N (up N 111 j 0) := fun c y q => up_nc_or (by omega)
        have hR0 : RSt E B t (up N 111 j 0) s1 (imF f 0 :: fs) := by
          refine ⟨REFT_f (fL_le (by omega) hf0) gT, CD_eq (fun c y q => up_nc (by omega)) gCD, by rw [up_nc (by decide)]; exact g17, ?_, RFS_f (by omega) hf0 gFS⟩
          rw [← hj]
          exact RFR_set (fun c y c1 c2 c3 c4 c5 => up_nc c4) (by rw [up_nc (by decide)]; exact g110) (up_eq _ _ _ _) (by rw [up_nc (by decide)]; exact gF.2.2.1.2.2.2) gF
        have hcd0 := CD_b hR0.2.1
        refine A_ald0 hC d_Mo_step_137 ?_
        refine A_iconst hC d_Mo_step_138 (by decide) ?_
        refine A_VF1 (as := [.inl 4]) hC d_Mo_step_139 mv_Mo_say lk_Mo_166 (by decide) sel_Mo_say hq_Mo ly_88 (by omega) (k_Mo_say l n (up N 111 j 0) hn 4 hcd0) rfl rfl (Nat.le_of_ble_eq_true rfl) ⟨Nat.zero_le _, Nat.zero_le _⟩ rfl ?_
        refine A_iret hC d_Mo_step_142 rfl (Nat.le_refl _) (Nat.le_refl _) ?_
        refine ⟨rfl, _, rfl, hK _ _ ⟨fL_t (fL_le (by omega) hf0) fL_say, ?_⟩⟩
        unfold valS
        rw [if_neg h77, if_pos h127]
        rcases CD_say hR0.2.1 4 with ⟨s2, k1, k2, k3, -, -⟩ | ⟨k1, k2⟩
        · have : sayE 4 s1 = .inr s2 := k1
          rw [this]
          exact ⟨if_neg k2, RSt_say hR0 k3⟩
        · have : sayE 4 s1 = .inl (-5) := k1
          rw [this]
          exact if_pos k2
    · refine A_ald0 hC d_Mo_step_80 ?_
      refine A_ild1 hC d_Mo_step_81 ?_
      refine A_sipush hC d_Mo_step_82 (by decide) (by decide) ?_
      have h7b := hX.2.1.2.2.2 (f.1 - 1)
      refine A_ald0 hC d_Mo_step_85 ?_
      refine A_getCR (v := 91) hC d_Mo_step_86 fF_Mo_16 ⟨by decide, rfl⟩ ly_88 (by omega) ⟨rfl, by decide⟩ cv_88_4 ?_
      refine A_ald0 hC d_Mo_step_89 ?_
      refine A_getCR (v := 102) hC d_Mo_step_90 fF_Mo_54 ⟨by decide, rfl⟩ ly_88 (by omega) ⟨rfl, by decide⟩ cv_88_18 ?_
      refine A_ild1 hC d_Mo_step_93 ?_
      refine A_iald hC d_Mo_step_94 ly_102 (by omega) (by omega) ?_
      refine A_eqi g102 ?_
      refine A_iald hC d_Mo_step_95 ly_91 (by omega) (by omega) ?_
      refine A_eqi g91 ?_
      refine A_iadd hC d_Mo_step_96 (by omega) ?_
      refine A_VX (as := [.inl j, .inl (2000 + (B 7 (f.1 - 1)))]) hC d_Mo_step_97 mv_Mo_plain lk_Mo_198 (by decide) sel_Mo_plain hq_Mo ly_88 (by omega) (plain N s1 f (2000 + (B 7 (f.1 - 1))) hRN (by omega)) rfl rfl (Nat.le_of_ble_eq_true rfl) ⟨Nat.zero_le _, Nat.zero_le _⟩ rfl (fun v N1 hv => ?_)
      refine A_iret hC d_Mo_step_100 rfl (Nat.le_refl _) (Nat.le_refl _) ?_
      refine ⟨rfl, _, rfl, hK v N1 ?_⟩
      unfold valS
      rw [if_pos h77]
      exact hv
  have hcdn := hcd
  by_cases hend : f.2.2.1 = f.2.1.length
  · have hso : stp B s f fs = endS B s f fs := by unfold stp; rw [if_pos hend]
    refine A_ald0 hC d_Mo_step_0 ?_
    refine A_getI (kI := 17) hC d_Mo_step_1 fF_Mo_157 ⟨by decide, rfl⟩ rfl ly_88 (by omega) ?_
    refine A_eqi h17' ?_
    refine A_iconst hC d_Mo_step_4 (by decide) ?_
    refine A_isub hC d_Mo_step_5 (by omega) ?_
    refine A_eqi (show j + 1 - 1 = j by omega) ?_
    refine A_ist1 hC d_Mo_step_6 ?_
    refine A_ald0 hC d_Mo_step_7 ?_
    refine A_getCR (v := 110) hC d_Mo_step_8 fF_Mo_78 ⟨by decide, rfl⟩ ly_88 (by omega) ⟨rfl, by decide⟩ cv_88_26 ?_
    refine A_ild1 hC d_Mo_step_11 ?_
    refine A_iald hC d_Mo_step_12 ly_110 (by omega) (by omega) ?_
    refine A_eqi h110 ?_
    refine A_ald0 hC d_Mo_step_13 ?_
    refine A_getCR (v := 103) hC d_Mo_step_14 fF_Mo_57 ⟨by decide, rfl⟩ ly_88 (by omega) ⟨rfl, by decide⟩ cv_88_19 ?_
    refine A_ild1 hC d_Mo_step_17 ?_
    refine A_iald hC d_Mo_step_18 ly_103 (by omega) (by omega) ?_
    refine A_eqi h103 ?_
    refine A_icmpne (tgt := 27) hC d_Mo_step_19 (by decide) (fun h19 => ?_) (fun h19 => ?_)
    · exact absurd h19 (by omega)
    · refine A_ald0 hC d_Mo_step_22 ?_
      refine A_VX (as := []) hC d_Mo_step_23 mv_Mo_endObject lk_Mo_191 (by decide) sel_Mo_endObject hq_Mo ly_88 (by omega) (k_Mo_endObject l n M hn E B t m hX s f fs hR hVA hl hSt) rfl rfl (Nat.le_of_ble_eq_true rfl) ⟨Nat.zero_le _, Nat.zero_le _⟩ rfl (fun v N1 hv => ?_)
      refine A_iret hC d_Mo_step_26 rfl (Nat.le_refl _) (Nat.le_refl _) ?_
      refine ⟨rfl, _, rfl, ?_⟩
      rw [hso]
      exact hv
  · have hk : f.2.2.1 < f.2.1.length := by omega
    by_cases hm : 0 ≤ f.2.2.2.1
    · have hso : stp B s f fs = manS B s f fs := by unfold stp; rw [if_neg hend, if_pos hm]
      refine A_ald0 hC d_Mo_step_0 ?_
      refine A_getI (kI := 17) hC d_Mo_step_1 fF_Mo_157 ⟨by decide, rfl⟩ rfl ly_88 (by omega) ?_
      refine A_eqi h17' ?_
      refine A_iconst hC d_Mo_step_4 (by decide) ?_
      refine A_isub hC d_Mo_step_5 (by omega) ?_
      refine A_eqi (show j + 1 - 1 = j by omega) ?_
      refine A_ist1 hC d_Mo_step_6 ?_
      refine A_ald0 hC d_Mo_step_7 ?_
      refine A_getCR (v := 110) hC d_Mo_step_8 fF_Mo_78 ⟨by decide, rfl⟩ ly_88 (by omega) ⟨rfl, by decide⟩ cv_88_26 ?_
      refine A_ild1 hC d_Mo_step_11 ?_
      refine A_iald hC d_Mo_step_12 ly_110 (by omega) (by omega) ?_
      refine A_eqi h110 ?_
      refine A_ald0 hC d_Mo_step_13 ?_
      refine A_getCR (v := 103) hC d_Mo_step_14 fF_Mo_57 ⟨by decide, rfl⟩ ly_88 (by omega) ⟨rfl, by decide⟩ cv_88_19 ?_
      refine A_ild1 hC d_Mo_step_17 ?_
      refine A_iald hC d_Mo_step_18 ly_103 (by omega) (by omega) ?_
      refine A_eqi h103 ?_
      refine A_icmpne (tgt := 27) hC d_Mo_step_19 (by decide) (fun h19 => ?_) (fun h19 => ?_)
      · refine A_ald0 hC d_Mo_step_27 ?_
        refine A_getCR (v := 111) hC d_Mo_step_28 fF_Mo_81 ⟨by decide, rfl⟩ ly_88 (by omega) ⟨rfl, by decide⟩ cv_88_27 ?_
        refine A_ild1 hC d_Mo_step_31 ?_
        refine A_iald hC d_Mo_step_32 ly_111 (by omega) (by omega) ?_
        refine A_eqi h111 ?_
        refine A_iflt (tgt := 42) hC d_Mo_step_33 (by decide) (fun h33 => ?_) (fun h33 => ?_)
        · exact absurd h33 (by omega)
        · refine A_ald0 hC d_Mo_step_36 ?_
          refine A_ild1 hC d_Mo_step_37 ?_
          refine A_VX (as := [.inl j]) hC d_Mo_step_38 mv_Mo_manyStep lk_Mo_195 (by decide) sel_Mo_manyStep hq_Mo ly_88 (by omega) (k_Mo_manyStep l n M hn E B t m hX s f fs hR hVA hl hm j hj) rfl rfl (Nat.le_of_ble_eq_true rfl) ⟨Nat.zero_le _, Nat.zero_le _⟩ rfl (fun v N1 hv => ?_)
          refine A_iret hC d_Mo_step_41 rfl (Nat.le_refl _) (Nat.le_refl _) ?_
          refine ⟨rfl, _, rfl, ?_⟩
          rw [hso]
          exact hv
      · exact absurd h19 (by omega)
    · have hi1 : f.2.2.2.1 = -1 := by omega
      have hh := RFR_h hF hk
      have hnm := (FV_h hX.1 hV hk).2.2.2.1
      rcases CD_say hCD (10 + B (hdF f) 2) with ⟨s1, g1, g2, g3, g4, g5⟩ | ⟨g1, g2⟩
      · have hso : stp B s f fs = valS B s1 f fs := by unfold stp; rw [if_neg hend, if_neg hm, g1]
        have hsm := g3.2.1.2
        refine A_ald0 hC d_Mo_step_0 ?_
        refine A_getI (kI := 17) hC d_Mo_step_1 fF_Mo_157 ⟨by decide, rfl⟩ rfl ly_88 (by omega) ?_
        refine A_eqi h17' ?_
        refine A_iconst hC d_Mo_step_4 (by decide) ?_
        refine A_isub hC d_Mo_step_5 (by omega) ?_
        refine A_eqi (show j + 1 - 1 = j by omega) ?_
        refine A_ist1 hC d_Mo_step_6 ?_
        refine A_ald0 hC d_Mo_step_7 ?_
        refine A_getCR (v := 110) hC d_Mo_step_8 fF_Mo_78 ⟨by decide, rfl⟩ ly_88 (by omega) ⟨rfl, by decide⟩ cv_88_26 ?_
        refine A_ild1 hC d_Mo_step_11 ?_
        refine A_iald hC d_Mo_step_12 ly_110 (by omega) (by omega) ?_
        refine A_eqi h110 ?_
        refine A_ald0 hC d_Mo_step_13 ?_
        refine A_getCR (v := 103) hC d_Mo_step_14 fF_Mo_57 ⟨by decide, rfl⟩ ly_88 (by omega) ⟨rfl, by decide⟩ cv_88_19 ?_
        refine A_ild1 hC d_Mo_step_17 ?_
        refine A_iald hC d_Mo_step_18 ly_103 (by omega) (by omega) ?_
        refine A_eqi h103 ?_
        refine A_icmpne (tgt := 27) hC d_Mo_step_19 (by decide) (fun h19 => ?_) (fun h19 => ?_)
        · refine A_ald0 hC d_Mo_step_27 ?_
          refine A_getCR (v := 111) hC d_Mo_step_28 fF_Mo_81 ⟨by decide, rfl⟩ ly_88 (by omega) ⟨rfl, by decide⟩ cv_88_27 ?_
          refine A_ild1 hC d_Mo_step_31 ?_
          refine A_iald hC d_Mo_step_32 ly_111 (by omega) (by omega) ?_
          refine A_eqi h111 ?_
          refine A_iflt (tgt := 42) hC d_Mo_step_33 (by decide) (fun h33 => ?_) (fun h33 => ?_)
          · refine A_ald0 hC d_Mo_step_42 ?_
            refine A_bipush hC d_Mo_step_43 (by decide) (by decide) ?_
            refine A_ald0 hC d_Mo_step_45 ?_
            refine A_getCR (v := 104) hC d_Mo_step_46 fF_Mo_60 ⟨by decide, rfl⟩ ly_88 (by omega) ⟨rfl, by decide⟩ cv_88_20 ?_
            refine A_ald0 hC d_Mo_step_49 ?_
            refine A_ild1 hC d_Mo_step_50 ?_
            refine A_VF1 (as := [.inl j]) hC d_Mo_step_51 mv_Mo_entry lk_Mo_172 (by decide) sel_Mo_entry hq_Mo ly_88 (by omega) (k_Mo_entry l n M hn j (by omega) (by omega)) rfl rfl (Nat.le_of_ble_eq_true rfl) ⟨Nat.zero_le _, Nat.zero_le _⟩ rfl ?_
            refine A_iald hC d_Mo_step_54 ly_104 (by omega) (by omega) ?_
            refine A_eqi hh.1 ?_
            refine A_iadd hC d_Mo_step_55 (by omega) ?_
            refine A_VF1 (as := [.inl (10 + (B (hdF f) 2))]) hC d_Mo_step_56 mv_Mo_say lk_Mo_166 (by decide) sel_Mo_say hq_Mo ly_88 (by omega) (k_Mo_say l n M hn (10 + B (hdF f) 2) hcd) rfl rfl (Nat.le_of_ble_eq_true rfl) ⟨Nat.zero_le _, Nat.zero_le _⟩ rfl ?_
            refine A_eqi (if_neg g2) ?_
            refine A_ist2 hC d_Mo_step_59 ?_
            refine A_ild2 hC d_Mo_step_60 ?_
            refine A_ifeq (tgt := 66) hC d_Mo_step_61 (by decide) (fun h61 => ?_) (fun h61 => ?_)
            · refine part66 hk hi1 (mSay M (10 + B (hdF f) 2)) s1 (RSt_say hR g3) fL_say (by rw [g5]; omega) (fun v N' hv => ?_)
              rw [hso]
              exact ⟨fL_t fL_say hv.1, hv.2⟩
            · exact absurd rfl h61
          · exact absurd h33 (by omega)
        · exact absurd h19 (by omega)
      · have hso : stp B s f fs = .inl (-5) := by unfold stp; rw [if_neg hend, if_neg hm, g1]
        refine A_ald0 hC d_Mo_step_0 ?_
        refine A_getI (kI := 17) hC d_Mo_step_1 fF_Mo_157 ⟨by decide, rfl⟩ rfl ly_88 (by omega) ?_
        refine A_eqi h17' ?_
        refine A_iconst hC d_Mo_step_4 (by decide) ?_
        refine A_isub hC d_Mo_step_5 (by omega) ?_
        refine A_eqi (show j + 1 - 1 = j by omega) ?_
        refine A_ist1 hC d_Mo_step_6 ?_
        refine A_ald0 hC d_Mo_step_7 ?_
        refine A_getCR (v := 110) hC d_Mo_step_8 fF_Mo_78 ⟨by decide, rfl⟩ ly_88 (by omega) ⟨rfl, by decide⟩ cv_88_26 ?_
        refine A_ild1 hC d_Mo_step_11 ?_
        refine A_iald hC d_Mo_step_12 ly_110 (by omega) (by omega) ?_
        refine A_eqi h110 ?_
        refine A_ald0 hC d_Mo_step_13 ?_
        refine A_getCR (v := 103) hC d_Mo_step_14 fF_Mo_57 ⟨by decide, rfl⟩ ly_88 (by omega) ⟨rfl, by decide⟩ cv_88_19 ?_
        refine A_ild1 hC d_Mo_step_17 ?_
        refine A_iald hC d_Mo_step_18 ly_103 (by omega) (by omega) ?_
        refine A_eqi h103 ?_
        refine A_icmpne (tgt := 27) hC d_Mo_step_19 (by decide) (fun h19 => ?_) (fun h19 => ?_)
        · refine A_ald0 hC d_Mo_step_27 ?_
          refine A_getCR (v := 111) hC d_Mo_step_28 fF_Mo_81 ⟨by decide, rfl⟩ ly_88 (by omega) ⟨rfl, by decide⟩ cv_88_27 ?_
          refine A_ild1 hC d_Mo_step_31 ?_
          refine A_iald hC d_Mo_step_32 ly_111 (by omega) (by omega) ?_
          refine A_eqi h111 ?_
          refine A_iflt (tgt := 42) hC d_Mo_step_33 (by decide) (fun h33 => ?_) (fun h33 => ?_)
          · refine A_ald0 hC d_Mo_step_42 ?_
            refine A_bipush hC d_Mo_step_43 (by decide) (by decide) ?_
            refine A_ald0 hC d_Mo_step_45 ?_
            refine A_getCR (v := 104) hC d_Mo_step_46 fF_Mo_60 ⟨by decide, rfl⟩ ly_88 (by omega) ⟨rfl, by decide⟩ cv_88_20 ?_
            refine A_ald0 hC d_Mo_step_49 ?_
            refine A_ild1 hC d_Mo_step_50 ?_
            refine A_VF1 (as := [.inl j]) hC d_Mo_step_51 mv_Mo_entry lk_Mo_172 (by decide) sel_Mo_entry hq_Mo ly_88 (by omega) (k_Mo_entry l n M hn j (by omega) (by omega)) rfl rfl (Nat.le_of_ble_eq_true rfl) ⟨Nat.zero_le _, Nat.zero_le _⟩ rfl ?_
            refine A_iald hC d_Mo_step_54 ly_104 (by omega) (by omega) ?_
            refine A_eqi hh.1 ?_
            refine A_iadd hC d_Mo_step_55 (by omega) ?_
            refine A_VF1 (as := [.inl (10 + (B (hdF f) 2))]) hC d_Mo_step_56 mv_Mo_say lk_Mo_166 (by decide) sel_Mo_say hq_Mo ly_88 (by omega) (k_Mo_say l n M hn (10 + B (hdF f) 2) hcd) rfl rfl (Nat.le_of_ble_eq_true rfl) ⟨Nat.zero_le _, Nat.zero_le _⟩ rfl ?_
            rw [mSay_f g2]
            refine A_eqi (if_pos g2) ?_
            refine A_ist2 hC d_Mo_step_59 ?_
            refine A_ild2 hC d_Mo_step_60 ?_
            refine A_ifeq (tgt := 66) hC d_Mo_step_61 (by decide) (fun h61 => ?_) (fun h61 => ?_)
            · exact absurd h61 (by decide)
            · refine A_ild2 hC d_Mo_step_64 ?_
              refine A_iret hC d_Mo_step_65 rfl (Nat.le_refl _) (Nat.le_refl _) ?_
              refine ⟨rfl, _, rfl, fL_r, ?_⟩
              rw [hso]
          · exact absurd h33 (by omega)
        · exact absurd h19 (by omega)
