-- ===== the reference: endObject, manyStep, step
theorem RSt_say {E B : Mem} {t : Int} {N : Mem} {s s1 : SA} {F : List RF} {c : Int} (h : RSt E B t N s F) (hc : CD (mSay N c) s1) : RSt E B t (mSay N c) s1 F := ⟨REFT_f fL_say h.1, hc, by rw [mSay_n (by omega)]; exact h.2.2.1, RFS_eq (fun a y a1 a2 => mSay_n (by omega)) h.2.2.2⟩
theorem OUT_pln {E B : Mem} {t : Int} {N : Mem} {s : SA} {f : RF} {fs : List RF} {c : Int} (h : RSt E B t N s (f :: fs)) : OUT E B t (plnS c s f fs) (if N 88 30 = 120 then -5 else 0) N (mSay (up N 110 (fs.length : Int) (N 110 (fs.length : Int) + 1)) c) := by
  have hf : fL (fs.length : Int) N (up N 110 (fs.length : Int) (N 110 (fs.length : Int) + 1)) := fun a y q => up_nc_or (by omega)
  refine ⟨fL_t (fL_le (by omega) hf) fL_say, ?_⟩
  have hR1 : RSt E B t (up N 110 (fs.length : Int) (N 110 (fs.length : Int) + 1)) s (nxtF f :: fs) := by
    obtain ⟨h1, h2, h3, h4, h5⟩ := h
    refine ⟨REFT_f (fL_le (by omega) hf) h1, CD_eq (fun a y q => up_nc (by omega)) h2, by rw [up_nc (by decide)]; exact h3, ?_, RFS_f (Int.le_refl _) hf h5⟩
    exact RFR_set (fun a y c1 c2 c3 c4 c5 => up_nc c3) (by rw [up_eq, h4.2.2.1.1]; rfl) (by rw [up_nc (by decide)]; exact h4.2.2.1.2.1) (by rw [up_nc (by decide)]; exact h4.2.2.1.2.2.2) h4
  have e30 : (up N 110 (fs.length : Int) (N 110 (fs.length : Int) + 1)) 88 30 = N 88 30 := up_nc (by decide)
  unfold plnS
  rcases CD_say hR1.2.1 c with ⟨s1, g1, g2, g3, -, -⟩ | ⟨g1, g2⟩
  · rw [g1]
    rw [e30] at g2
    exact ⟨if_neg g2, RSt_say hR1 g3⟩
  · rw [g1]
    rw [e30] at g2
    exact if_pos g2
theorem CD_cut {N : Mem} {s : SA} {x st : Int} (h : CD N s) (h1 : 0 ≤ st) (h2 : st ≤ (s.1.length : Int)) (h3 : st + 1 ≤ s.2.1) : CD (up (up (up (up N 88 17 x) 88 31 st) 114 st 1) 88 31 (st + 1)) (s.1.take st.toNat ++ [1], s.2.1, s.2.2) := by
  obtain ⟨⟨a1, a2, a3⟩, ⟨b1, b2⟩, ⟨c1, c2⟩, d1⟩ := h
  have hl : (s.1.take st.toNat).length = st.toNat := by rw [List.length_take]; omega
  refine ⟨⟨?_, ?_, ?_⟩, ⟨?_, b2⟩, ⟨?_, c2⟩, PLC_eq (fun c y q => by rw [up_nc (by omega), up_nc (by omega), up_nc (by omega), up_nc (by omega)]) d1⟩
  · rw [up_eq, List.length_append, hl]; simp; omega
  · have e : arL N 114 0 (s.1.take st.toNat) := by
      rw [← List.take_append_drop st.toNat s.1] at a2
      exact arL_left a2
    have := arL_snoc (v := 1) e
    rw [hl, show (0 : Int) + (st.toNat : Int) = st by omega] at this
    exact arL_eq (fun y => by rw [up_nc (by decide)]; unfold up; repeat (first | rfl | omega | split)) this
  · rw [List.length_append, hl]; simp; omega
  · rw [up_nk (by decide), up_nc (by decide), up_nk (by decide), up_nk (by decide)]; exact b1
  · rw [up_nk (by decide), up_nc (by decide), up_nk (by decide), up_nk (by decide)]; exact c1
set_option maxHeartbeats 4000000 in
theorem k_Mo_endObject (l : Launch) (n : Nat) (M : Mem) (hn : 117 ≤ n) (E B : Mem) (t : Int) (m : Nat) (hX : EXB E B t m) (s : SA) (f : RF) (fs : List RF) (hR : RSt E B t M s (f :: fs)) (hVA : VAL E B t m (f :: fs)) (hl : fs.length ≤ 12) (hSt : STK (s.1.length : Int) (f :: fs)) : AX l m_Mo_endObject 5 [.inr 88] n M (fun v M' => OUT E B t (endS B s f fs) v M M') := by
  refine AM_intro (by decide) (Nat.le_of_ble_eq_true rfl) (fun X b0 D hC _ => ?_)
  show AW X b0 D true 0 0 _ n M 0 [some (.inr 88), none, none] []
  obtain ⟨hT, hCD, h17, hF, hFS⟩ := id hR
  have h17' : M 88 17 = (fs.length : Int) + 1 := by rw [h17]; simp
  have hcd := CD_b hCD
  have part87 : ∀ (g : RF) (gs : List RF), fs = g :: gs → ∀ (N : Mem) (o : Int) (g' : RF), (g'.2.2.2.1 = -1 ∨ (0 ≤ g'.2.2.2.1 ∧ g'.2.2.2.1 ≤ 4)) → g'.2.2.1 ≤ 10 → RFR E B t N (gs.length : Int) g' → RFS E B t N gs → (∀ N' : Mem, RFS E B t N' ((if 0 ≤ g'.2.2.2.1 then imF g' (g'.2.2.2.1 + 1) else nxtF g') :: gs) → (∀ c y : Int, ¬ ((c = 110 ∨ c = 111) ∧ y = (gs.length : Int)) → N' c y = N c y) → n = n ∧ ∃ v : Int, (some (Sum.inl o) : Option AV) = some (.inl v) ∧ OUT E B t (endS B s f fs) v M N') → AW X b0 D true 0 0 (fx_Q X b0 D true 0 0 (fun r' n' M' => n' = n ∧ ∃ v : Int, r' = some (.inl v) ∧ OUT E B t (endS B s f fs) v M M')) n N 87 [some (.inr 88), some (.inl o), some (.inl ((gs.length : Int) + 1))] [] := by
    intro g gs hfs N o g' him hat hg hgs hK
    have hlg : gs.length ≤ 11 := by rw [hfs] at hl; simp at hl; omega
    have h111 := hg.2.2.1.2.1
    have h110 := hg.2.2.1.1
    have hl10 := hg.2.2.2.1
    have hfl : ∀ a v : Int, a = 110 ∨ a = 111 → fL (gs.length : Int) N (up N a (gs.length : Int) v) := fun a v ha c y q => up_nc_or (by omega)
    refine A_ald0 hC d_Mo_endObject_87 ?_
    refine A_getCR (v := 111) hC d_Mo_endObject_88 fF_Mo_81 ⟨by decide, rfl⟩ ly_88 (by omega) ⟨rfl, by decide⟩ cv_88_27 ?_
    refine A_ild2 hC d_Mo_endObject_91 ?_
    refine A_iconst hC d_Mo_endObject_92 (by decide) ?_
    refine A_isub hC d_Mo_endObject_93 (by omega) ?_
    refine A_eqi (show (gs.length : Int) + 1 - 1 = (gs.length : Int) by omega) ?_
    refine A_iald hC d_Mo_endObject_94 ly_111 (by omega) (by omega) ?_
    refine A_eqi h111 ?_
    refine A_iflt (tgt := 113) hC d_Mo_endObject_95 (by decide) (fun h95 => ?_) (fun h95 => ?_)
    · refine A_ald0 hC d_Mo_endObject_113 ?_
      refine A_getCR (v := 110) hC d_Mo_endObject_114 fF_Mo_78 ⟨by decide, rfl⟩ ly_88 (by omega) ⟨rfl, by decide⟩ cv_88_26 ?_
      refine A_ild2 hC d_Mo_endObject_117 ?_
      refine A_iconst hC d_Mo_endObject_118 (by decide) ?_
      refine A_isub hC d_Mo_endObject_119 (by omega) ?_
      refine A_eqi (show (gs.length : Int) + 1 - 1 = (gs.length : Int) by omega) ?_
      refine A_dup2 hC d_Mo_endObject_120 ?_
      refine A_iald hC d_Mo_endObject_121 ly_110 (by omega) (by omega) ?_
      refine A_eqi h110 ?_
      refine A_iconst hC d_Mo_endObject_122 (by decide) ?_
      refine A_iadd hC d_Mo_endObject_123 (by omega) ?_
      refine A_iast hC d_Mo_endObject_124 ly_110 (by omega) (by omega) (fun _ => kk_i _) ?_
      refine A_ild1 hC d_Mo_endObject_125 ?_
      refine A_iret hC d_Mo_endObject_126 rfl (Nat.le_refl _) (Nat.le_refl _) ?_
      refine hK _ ?_ (fun c y q => up_nc_or (by omega))
      rw [if_neg (by omega)]
      exact ⟨RFR_set (fun a y c1 c2 c3 c4 c5 => up_nc c3) (up_eq _ _ _ _) (by rw [up_nc (by decide)]; exact h111) (by rw [up_nc (by decide)]; exact hg.2.2.1.2.2.2) hg, RFS_f (Int.le_refl _) (hfl _ _ (Or.inl rfl)) hgs⟩
    · refine A_ald0 hC d_Mo_endObject_98 ?_
      refine A_getCR (v := 111) hC d_Mo_endObject_99 fF_Mo_81 ⟨by decide, rfl⟩ ly_88 (by omega) ⟨rfl, by decide⟩ cv_88_27 ?_
      refine A_ild2 hC d_Mo_endObject_102 ?_
      refine A_iconst hC d_Mo_endObject_103 (by decide) ?_
      refine A_isub hC d_Mo_endObject_104 (by omega) ?_
      refine A_eqi (show (gs.length : Int) + 1 - 1 = (gs.length : Int) by omega) ?_
      refine A_dup2 hC d_Mo_endObject_105 ?_
      refine A_iald hC d_Mo_endObject_106 ly_111 (by omega) (by omega) ?_
      refine A_eqi h111 ?_
      refine A_iconst hC d_Mo_endObject_107 (by decide) ?_
      refine A_iadd hC d_Mo_endObject_108 (by omega) ?_
      refine A_iast hC d_Mo_endObject_109 ly_111 (by omega) (by omega) (fun _ => kk_i _) ?_
      refine A_goto (tgt := 125) hC d_Mo_endObject_110 (by decide) ?_
      refine A_ild1 hC d_Mo_endObject_125 ?_
      refine A_iret hC d_Mo_endObject_126 rfl (Nat.le_refl _) (Nat.le_refl _) ?_
      refine hK _ ?_ (fun c y q => up_nc_or (by omega))
      rw [if_pos (by omega)]
      exact ⟨RFR_set (fun a y c1 c2 c3 c4 c5 => up_nc c4) (by rw [up_nc (by decide)]; exact h110) (up_eq _ _ _ _) (by rw [up_nc (by decide)]; exact hg.2.2.1.2.2.2) hg, RFS_f (Int.le_refl _) (hfl _ _ (Or.inr rfl)) hgs⟩
  have part70 : ∀ (g : RF) (gs : List RF), fs = g :: gs → ∀ (N : Mem) (o : Int), (∀ c y : Int, 102 ≤ c → c ≤ 113 → N c y = M c y) → REFT E N → (∀ N' : Mem, RFS E B t N' (bkF B f.2.2.2.2.2 g :: gs) → (∀ c y : Int, ¬ ((c = 110 ∨ c = 111 ∨ c = 113) ∧ y = (gs.length : Int)) → N' c y = N c y) → n = n ∧ ∃ v : Int, (some (Sum.inl o) : Option AV) = some (.inl v) ∧ OUT E B t (endS B s f fs) v M N') → AW X b0 D true 0 0 (fx_Q X b0 D true 0 0 (fun r' n' M' => n' = n ∧ ∃ v : Int, r' = some (.inl v) ∧ OUT E B t (endS B s f fs) v M M')) n N 70 [some (.inr 88), some (.inl o), some (.inl ((gs.length : Int) + 1))] [] := by
    intro g gs hfs N o hN hTN hK
    have hlg : gs.length ≤ 11 := by rw [hfs] at hl; simp at hl; omega
    have hb : N 113 ((gs.length : Int) + 1) = f.2.2.2.2.2 := by
      rw [hN 113 _ (by decide) (by decide)]
      have := hF.2.2.1.2.2.2
      rw [hfs] at this
      exact this
    have hFN := RFS_eq hN hFS
    rw [hfs] at hFN
    obtain ⟨hg, hgs⟩ := hFN
    have hVg : FV E B t m gs.length g ∧ PAR B g := by rw [hfs] at hVA; exact ⟨hVA.2.2.1, hVA.2.1 g List.mem_cons_self⟩
    have h9b := hX.2.1.2.1 (celE B g.1 (hdF g))
    have him : g.2.2.2.1 = -1 ∨ (0 ≤ g.2.2.2.1 ∧ g.2.2.2.1 ≤ 4) := by rcases hVg.2.2.2 with w | w <;> omega
    have hat : g.2.2.1 ≤ 10 := by have := hg.2.2.2.1; have := hVg.2.1; omega
    have hf113 : fL (gs.length : Int) N (up N 113 (gs.length : Int) 1) := fun c y q => up_nc_or (by omega)
    refine A_ald0 hC d_Mo_endObject_70 ?_
    refine A_getCR (v := 113) hC d_Mo_endObject_71 fF_Mo_87 ⟨by decide, rfl⟩ ly_88 (by omega) ⟨rfl, by decide⟩ cv_88_29 ?_
    refine A_ild2 hC d_Mo_endObject_74 ?_
    refine A_zald hC d_Mo_endObject_75 ly_113 (by omega) (by omega) ?_
    refine A_eqi hb ?_
    refine A_ifeq (tgt := 87) hC d_Mo_endObject_76 (by decide) (fun h76 => ?_) (fun h76 => ?_)
    · have hbk : bkG B f.2.2.2.2.2 g = g := by unfold bkG; rw [if_neg (fun w => w.1 h76)]
      refine part87 g gs hfs N o g him hat hg hgs (fun N' w1 w2 => hK N' ?_ (fun c y q => w2 c y (by omega)))
      unfold bkF
      rw [hbk]
      exact w1
    · refine A_ald0 hC d_Mo_endObject_79 ?_
      refine A_ild2 hC d_Mo_endObject_80 ?_
      refine A_iconst hC d_Mo_endObject_81 (by decide) ?_
      refine A_isub hC d_Mo_endObject_82 (by omega) ?_
      refine A_eqi (show (gs.length : Int) + 1 - 1 = (gs.length : Int) by omega) ?_
      refine A_iconst hC d_Mo_endObject_83 (by decide) ?_
      refine A_VF0 (as := [.inl ((gs.length : Int)), .inl 0]) hC d_Mo_endObject_84 mv_Mo_nothing lk_Mo_184 (by decide) sel_Mo_nothing hq_Mo ly_88 (by omega) (k_Mo_nothing0 l n N hn E B t m hX gs.length g (gs.length : Int) (by omega) hTN hg hVg.1 hVg.2.1 (by rw [hVg.2.2.1]; decide)) rfl rfl (Nat.le_of_ble_eq_true rfl) ⟨Nat.zero_le _, Nat.zero_le _⟩ rfl ?_
      by_cases h8 : B (hdF g) 8 = 0
      · rw [if_pos h8]
        have hbk : bkG B f.2.2.2.2.2 g = g := by unfold bkG; rw [if_neg (fun w => w.2 h8)]
        refine part87 g gs hfs N o g him hat hg hgs (fun N' w1 w2 => hK N' ?_ (fun c y q => w2 c y (by omega)))
        unfold bkF
        rw [hbk]
        exact w1
      · rw [if_neg h8]
        have hbk : bkG B f.2.2.2.2.2 g = badF g 1 := by unfold bkG; rw [if_pos ⟨h76, h8⟩]
        refine part87 g gs hfs _ o (badF g 1) him hat ?_ (RFS_f (Int.le_refl _) hf113 hgs) (fun N' w1 w2 => hK N' ?_ (fun c y q => by rw [w2 c y (by omega), up_nc_or (by omega)]))
        · exact RFR_set (fun a y c1 c2 c3 c4 c5 => up_nc c5) (by rw [up_nc (by decide)]; exact hg.2.2.1.1) (by rw [up_nc (by decide)]; exact hg.2.2.1.2.1) (up_eq _ _ _ _) hg
        · unfold bkF
          rw [hbk]
          exact w1
  have part64 : ∀ (N : Mem) (o : Int), (∀ c y : Int, 102 ≤ c → c ≤ 113 → N c y = M c y) → REFT E N → (∀ N' : Mem, RFS E B t N' (bkS B f.2.2.2.2.2 fs) → (∀ c y : Int, ¬ ((c = 110 ∨ c = 111 ∨ c = 113) ∧ 0 ≤ y) → N' c y = N c y) → n = n ∧ ∃ v : Int, (some (Sum.inl o) : Option AV) = some (.inl v) ∧ OUT E B t (endS B s f fs) v M N') → AW X b0 D true 0 0 (fx_Q X b0 D true 0 0 (fun r' n' M' => n' = n ∧ ∃ v : Int, r' = some (.inl v) ∧ OUT E B t (endS B s f fs) v M M')) n N 64 [some (.inr 88), some (.inl o), some (.inl ((fs.length : Int)))] [] := by
    intro N o hN hTN hK
    cases hfs : fs with
    | nil =>
      refine A_ild2 hC d_Mo_endObject_64 ?_
      refine A_ifne (tgt := 70) hC d_Mo_endObject_65 (by decide) (fun h65 => ?_) (fun h65 => ?_)
      · exact absurd rfl h65
      · refine A_ild1 hC d_Mo_endObject_68 ?_
        refine A_iret hC d_Mo_endObject_69 rfl (Nat.le_refl _) (Nat.le_refl _) ?_
        rw [← hfs]
        exact hK N (by rw [hfs]; trivial) (fun _ _ _ => rfl)
    | cons g gs =>
      refine A_ild2 hC d_Mo_endObject_64 ?_
      refine A_ifne (tgt := 70) hC d_Mo_endObject_65 (by decide) (fun h65 => ?_) (fun h65 => ?_)
      · have := part70 g gs hfs N o hN hTN (fun N' w1 w2 => hK N' (by rw [hfs]; exact w1) (fun c y c1 => w2 c y (by omega)))
        rw [hfs] at this
        exact this
      · exact absurd h65 (by simp; omega)
  have hst := hSt.1
  have hst2 := hSt.2.1
  rcases CD_say hCD 3 with ⟨s1, g1, g2, g3, g4, g5⟩ | ⟨g1, g2⟩
  · have hs1 : s1.1 = s.1 ++ [3] := by unfold sayE at g1; split at g1; cases g1; cases g1; rfl
    have hE : endS B s f fs = .inr (if f.2.2.2.2.2 = 0 then s1 else (s1.1.take f.2.2.2.2.1.toNat ++ [1], s1.2.1, s1.2.2), bkS B f.2.2.2.2.2 fs) := by unfold endS; rw [g1]
    have hcd1 := CD_b g3
    have hN1 : ∀ c y : Int, ¬ (c = 114 ∨ (c = 88 ∧ (y = 30 ∨ y = 31))) → mSay M 3 c y = M c y := fun c y q => mSay_n q
    have hl1 := g3.1
    have hlen : (bkS B f.2.2.2.2.2 fs).length = fs.length := by cases fs <;> rfl
    generalize hNN : mSay M 3 = N1 at g3 hcd1 hN1 hl1
    have h17n : N1 88 17 = (fs.length : Int) + 1 := by rw [hN1 88 17 (by omega)]; exact h17'
    have hb : N1 113 (fs.length : Int) = f.2.2.2.2.2 := by rw [hN1 113 _ (by omega)]; exact hF.2.2.1.2.2.2
    have h112 : N1 112 (fs.length : Int) = f.2.2.2.2.1 := by rw [hN1 112 _ (by omega)]; exact hF.2.2.1.2.2.1
    have hs1l : s1.1.length = s.1.length + 1 := by rw [hs1]; simp
    have hm1 := g3.2.1
    have hm0 := hCD.1.2.2
    have post : ∀ (N N' : Mem) (s2 : SA), s2 = (if f.2.2.2.2.2 = 0 then s1 else (s1.1.take f.2.2.2.2.1.toNat ++ [1], s1.2.1, s1.2.2)) → CD N s2 → N 88 17 = (fs.length : Int) → (∀ c y : Int, ¬ (c = 114 ∨ (c = 88 ∧ (y = 30 ∨ y = 31 ∨ y = 17))) → N c y = M c y) → RFS E B t N' (bkS B f.2.2.2.2.2 fs) → (∀ c y : Int, ¬ ((c = 110 ∨ c = 111 ∨ c = 113) ∧ 0 ≤ y) → N' c y = N c y) → OUT E B t (endS B s f fs) 0 M N' := by
      intro N N' s2 e1 e2 e3 e4 e5 e6
      have hfN : fL 0 M N' := fun c y q => by rw [e6 c y (by omega), e4 c y (by omega)]
      refine ⟨hfN, ?_⟩
      rw [hE]
      refine ⟨rfl, REFT_f hfN hT, ?_, ?_, e5⟩
      · rw [← e1]
        exact CD_eq (fun c y q => e6 c y (by omega)) e2
      · rw [e6 88 17 (by decide), e3]
        show (fs.length : Int) = ((bkS B f.2.2.2.2.2 fs).length : Int)
        rw [hlen]
    refine A_ald0 hC d_Mo_endObject_0 ?_
    refine A_iconst hC d_Mo_endObject_1 (by decide) ?_
    refine A_VF1 (as := [.inl 3]) hC d_Mo_endObject_2 mv_Mo_say lk_Mo_166 (by decide) sel_Mo_say hq_Mo ly_88 (by omega) (k_Mo_say l n M hn 3 hcd) rfl rfl (Nat.le_of_ble_eq_true rfl) ⟨Nat.zero_le _, Nat.zero_le _⟩ rfl ?_
    rw [hNN]
    refine A_eqi (if_neg g2) ?_
    refine A_ist1 hC d_Mo_endObject_5 ?_
    refine A_ald0 hC d_Mo_endObject_6 ?_
    refine A_dup hC d_Mo_endObject_7 ?_
    refine A_getI (kI := 17) hC d_Mo_endObject_8 fF_Mo_157 ⟨by decide, rfl⟩ rfl ly_88 (by omega) ?_
    refine A_eqi h17n ?_
    refine A_iconst hC d_Mo_endObject_11 (by decide) ?_
    refine A_isub hC d_Mo_endObject_12 (by omega) ?_
    refine A_eqi (show (fs.length : Int) + 1 - 1 = (fs.length : Int) by omega) ?_
    refine A_putI (kI := 17) hC d_Mo_endObject_13 fP_Mo_157 ⟨by decide, rfl⟩ rfl ly_88 (by omega) (fun _ => by decide) ?_
    refine A_ald0 hC d_Mo_endObject_16 ?_
    refine A_getIE (x := (fs.length : Int)) (kI := 17) hC d_Mo_endObject_17 fF_Mo_157 ⟨by decide, rfl⟩ rfl ly_88 (by omega) (by rw [up_eq]) ?_
    refine A_ist2 hC d_Mo_endObject_20 ?_
    refine A_ild1 hC d_Mo_endObject_21 ?_
    refine A_ifne (tgt := 64) hC d_Mo_endObject_22 (by decide) (fun h22 => ?_) (fun h22 => ?_)
    · exact absurd rfl h22
    · refine A_ald0 hC d_Mo_endObject_25 ?_
      refine A_getCR (v := 113) hC d_Mo_endObject_26 fF_Mo_87 ⟨by decide, rfl⟩ ly_88 (by omega) ⟨rfl, by decide⟩ cv_88_29 ?_
      refine A_ild2 hC d_Mo_endObject_29 ?_
      refine A_zaldE (x := N1 113 ((fs.length : Int))) hC d_Mo_endObject_30 ly_113 (by omega) (by omega) (by rw [up_nc (c := 88) (c' := 113) (by decide)]) ?_
      refine A_eqi hb ?_
      refine A_ifeq (tgt := 64) hC d_Mo_endObject_31 (by decide) (fun h31 => ?_) (fun h31 => ?_)
      · refine part64 _ 0 (fun c y c1 c2 => by rw [up_nc (by omega)]; exact hN1 c y (by omega)) (REFT_f (fun c y q => by rw [up_nc_or (by omega)]; exact hN1 c y (by omega)) hT) (fun N' w1 w2 => ⟨rfl, 0, rfl, post _ N' s1 (by rw [if_pos h31]) (CD_eq (fun c y q => up_nc_or (by omega)) g3) (up_eq _ _ _ _) (fun c y q => by rw [up_nc_or (by omega)]; exact hN1 c y (by omega)) w1 w2⟩)
      · refine A_ald0 hC d_Mo_endObject_34 ?_
        refine A_ald0 hC d_Mo_endObject_35 ?_
        refine A_getCR (v := 112) hC d_Mo_endObject_36 fF_Mo_84 ⟨by decide, rfl⟩ ly_88 (by omega) ⟨rfl, by decide⟩ cv_88_28 ?_
        refine A_ild2 hC d_Mo_endObject_39 ?_
        refine A_ialdE (x := N1 112 ((fs.length : Int))) hC d_Mo_endObject_40 ly_112 (by omega) (by omega) (by rw [up_nc (c := 88) (c' := 112) (by decide)]) ?_
        refine A_eqi h112 ?_
        refine A_putI (kI := 31) hC d_Mo_endObject_41 fP_Mo_160 ⟨by decide, rfl⟩ rfl ly_88 (by omega) (fun _ => by decide) ?_
        refine A_ald0 hC d_Mo_endObject_44 ?_
        refine A_getCR (v := 114) hC d_Mo_endObject_45 fF_Mo_90 ⟨by decide, rfl⟩ ly_88 (by omega) ⟨rfl, by decide⟩ cv_88_32 ?_
        refine A_ald0 hC d_Mo_endObject_48 ?_
        refine A_getIE (x := f.2.2.2.2.1) (kI := 31) hC d_Mo_endObject_49 fF_Mo_160 ⟨by decide, rfl⟩ rfl ly_88 (by omega) (by rw [up_eq]) ?_
        refine A_iconst hC d_Mo_endObject_52 (by decide) ?_
        refine A_iast hC d_Mo_endObject_53 ly_114 (by omega) (by omega) (fun _ => kk_i _) ?_
        refine A_ald0 hC d_Mo_endObject_54 ?_
        refine A_dup hC d_Mo_endObject_55 ?_
        refine A_getIE (x := f.2.2.2.2.1) (kI := 31) hC d_Mo_endObject_56 fF_Mo_160 ⟨by decide, rfl⟩ rfl ly_88 (by omega) (by rw [up_nc (c := 114) (c' := 88) (by decide), up_eq]) ?_
        refine A_iconst hC d_Mo_endObject_59 (by decide) ?_
        refine A_iadd hC d_Mo_endObject_60 (by omega) ?_
        refine A_putI (kI := 31) hC d_Mo_endObject_61 fP_Mo_160 ⟨by decide, rfl⟩ rfl ly_88 (by omega) (fun _ => by decide) ?_
        refine part64 _ 0 (fun c y c1 c2 => by rw [up_nc (by omega), up_nc (by omega), up_nc (by omega), up_nc (by omega)]; exact hN1 c y (by omega)) (REFT_f (fun c y q => by rw [up_nc_or (by omega), up_nc_or (by omega), up_nc_or (by omega), up_nc_or (by omega)]; exact hN1 c y (by omega)) hT) (fun N' w1 w2 => ⟨rfl, 0, rfl, post _ N' (s1.1.take f.2.2.2.2.1.toNat ++ [1], s1.2.1, s1.2.2) (by rw [if_neg h31]) (CD_cut g3 hst (by omega) (by omega)) (by rw [up_nk (by decide), up_nc (by decide), up_nk (by decide), up_eq]) (fun c y q => by rw [up_nc_or (by omega), up_nc_or (by omega), up_nc_or (by omega), up_nc_or (by omega)]; exact hN1 c y (by omega)) w1 w2⟩)
  · have hE : endS B s f fs = .inl (-5) := by unfold endS; rw [g1]
    refine A_ald0 hC d_Mo_endObject_0 ?_
    refine A_iconst hC d_Mo_endObject_1 (by decide) ?_
    refine A_VF1 (as := [.inl 3]) hC d_Mo_endObject_2 mv_Mo_say lk_Mo_166 (by decide) sel_Mo_say hq_Mo ly_88 (by omega) (k_Mo_say l n M hn 3 hcd) rfl rfl (Nat.le_of_ble_eq_true rfl) ⟨Nat.zero_le _, Nat.zero_le _⟩ rfl ?_
    rw [mSay_f g2]
    refine A_eqi (if_pos g2) ?_
    refine A_ist1 hC d_Mo_endObject_5 ?_
    refine A_ald0 hC d_Mo_endObject_6 ?_
    refine A_dup hC d_Mo_endObject_7 ?_
    refine A_getI (kI := 17) hC d_Mo_endObject_8 fF_Mo_157 ⟨by decide, rfl⟩ rfl ly_88 (by omega) ?_
    refine A_eqi h17' ?_
    refine A_iconst hC d_Mo_endObject_11 (by decide) ?_
    refine A_isub hC d_Mo_endObject_12 (by omega) ?_
    refine A_eqi (show (fs.length : Int) + 1 - 1 = (fs.length : Int) by omega) ?_
    refine A_putI (kI := 17) hC d_Mo_endObject_13 fP_Mo_157 ⟨by decide, rfl⟩ rfl ly_88 (by omega) (fun _ => by decide) ?_
    refine A_ald0 hC d_Mo_endObject_16 ?_
    refine A_getIE (x := (fs.length : Int)) (kI := 17) hC d_Mo_endObject_17 fF_Mo_157 ⟨by decide, rfl⟩ rfl ly_88 (by omega) (by rw [up_eq]) ?_
    refine A_ist2 hC d_Mo_endObject_20 ?_
    refine A_ild1 hC d_Mo_endObject_21 ?_
    refine A_ifne (tgt := 64) hC d_Mo_endObject_22 (by decide) (fun h22 => ?_) (fun h22 => ?_)
    · refine part64 _ (-5) (fun c y c1 c2 => up_nc (by omega)) (REFT_f (fun c y q => up_nc_or (by omega)) hT) (fun N' w1 w2 => ⟨rfl, -5, rfl, fun c y q => by rw [w2 c y (by omega), up_nc_or (by omega)], ?_⟩)
      rw [hE]
    · exact absurd h22 (by decide)
