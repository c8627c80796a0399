/-- only what the check of the reference uses has changed -/
def frK (M M' : Mem) : Prop := ∀ c j : Int, c ≠ 99 → c ≠ 100 → c ≠ 101 → (c ≠ 88 ∨ (j ≠ 12 ∧ j ≠ 13)) → M' c j = M c j
theorem frK.tr {M M1 M2 : Mem} (h : frK M M1) (h2 : frK M1 M2) : frK M M2 := fun c j a1 a2 a3 a4 => (h2 c j a1 a2 a3 a4).trans (h c j a1 a2 a3 a4)
theorem frK.rf {M : Mem} : frK M M := fun _ _ _ _ _ _ => rfl
theorem MT.of {E M M' : Mem} (h : MT E M) (e : frK M M') : MT E M' := by
  obtain ⟨m1, m2, m3, m4, m5, m6, m7⟩ := h
  have f : ∀ c j : Int, c ≠ 99 → c ≠ 100 → c ≠ 101 → c ≠ 88 → M' c j = M c j := fun c j a1 a2 a3 a4 => e c j a1 a2 a3 (Or.inl a4)
  refine ⟨fun i => by rw [f 95 i (by decide) (by decide) (by decide) (by decide)]; exact m1 i, fun i => by rw [f 96 i (by decide) (by decide) (by decide) (by decide)]; exact m2 i, fun i => by rw [f 97 i (by decide) (by decide) (by decide) (by decide)]; exact m3 i, fun i => by rw [f 98 i (by decide) (by decide) (by decide) (by decide)]; exact m4 i, by rw [e 88 0 (by decide) (by decide) (by decide) (Or.inr (by decide))]; exact m5, fun t => by rw [f 89 t (by decide) (by decide) (by decide) (by decide)]; exact m6 t, fun t g h1 h2 h3 h4 => by rw [f 90 _ (by decide) (by decide) (by decide) (by decide), f 90 _ (by decide) (by decide) (by decide) (by decide), f 90 _ (by decide) (by decide) (by decide) (by decide)]; exact m7 t g h1 h2 h3 h4⟩
theorem MB.of {M M' : Mem} (h : MB M) (e : frK M M') : MB M' := by
  obtain ⟨m1, m2, m3, m4, m5, m6⟩ := h
  have f : ∀ c j : Int, c ≠ 99 → c ≠ 100 → c ≠ 101 → c ≠ 88 → M' c j = M c j := fun c j a1 a2 a3 a4 => e c j a1 a2 a3 (Or.inl a4)
  refine ⟨by rw [e 88 0 (by decide) (by decide) (by decide) (Or.inr (by decide))]; exact m1, fun t => by rw [f 89 t (by decide) (by decide) (by decide) (by decide)]; exact m2 t, by rw [e 88 3 (by decide) (by decide) (by decide) (Or.inr (by decide))]; exact m3, fun t => by rw [f 91 t (by decide) (by decide) (by decide) (by decide)]; exact m4 t, fun t => by rw [f 92 t (by decide) (by decide) (by decide) (by decide)]; exact m5 t, fun t => by rw [f 95 t (by decide) (by decide) (by decide) (by decide)]; exact m6 t⟩
theorem frK_up {M : Mem} {c k v : Int} (h : c = 99 ∨ c = 100 ∨ c = 101 ∨ (c = 88 ∧ (k = 12 ∨ k = 13))) : frK M (up M c k v) := by
  intro c' j a1 a2 a3 a4
  unfold up
  rw [if_neg]
  rintro ⟨rfl, rfl⟩
  omega
/-- the outcome of the check: -1, or the place of the first WRONG token -/
def ckQ (E : Mem) (t : Int) : Int := if gd (E 13) (E 12) 0 = 0 then 0 else ckO E 60 1 0 [(t, -1, 0)] (fun _ => 0)
theorem ckO_nil {E : Mem} {f : Nat} {k i : Int} {u : Int → Int} : ckO E f k i [] u = -1 := by cases f <;> rfl
theorem ckO_0 {E : Mem} {k i : Int} {a : Fr} {st : List Fr} {u : Int → Int} : ckO E 0 k i (a :: st) u = i := rfl
theorem ckO_s {E : Mem} {f : Nat} {k i : Int} {a : Fr} {st : List Fr} {u : Int → Int} : ckO E (f + 1) k i (a :: st) u = if rgtP E a.1 i u then ckO E f (k + 1) (nxI E i (a :: st)) (nxS E k i (a :: st)) (nxU E i (a :: st) u) else i := rfl
set_option maxHeartbeats 4000000 in
theorem k_Mo_checked (l : Launch) (n : Nat) (M : Mem) (hn : 117 ≤ n) (E : Mem) (hM : MT E M) (hS : SCH E) (hX : TXT E) (hB : MB M) (t : Int) (ht : 0 ≤ t ∧ t ≤ 5) : AR l m_Mo_checked 4 [.inr 88, .inl t] n M (some (.inl (if ckQ E t = -1 then 1 else 0))) (fun M' => M' 88 12 = ckQ E t ∧ frK M M') := by
  refine AM_intro (by decide) (Nat.le_of_ble_eq_true rfl) (fun X b0 D hC _ => ?_)
  show AW X b0 D true 0 0 (fx_Q X b0 D true 0 0 (fun r' n' M' => r' = (some (.inl (if ckQ E t = -1 then 1 else 0))) ∧ n' = n ∧ (M' 88 12 = ckQ E t ∧ frK M M'))) n M 0 [some (.inr 88), some (.inl t), none, none] []
  have loop : ∀ (f : Nat) (N : Mem) (i k : Int) (st : List Fr) (u : Int → Int) (G : List (Int × Int)), frK M N → (f : Int) = 61 - k → 1 ≤ k → (st.length : Int) ≤ k → (st = [] ∨ gOK E G i st) → arS N st → N 88 13 = (st.length : Nat) → (∀ x ∈ st, 0 ≤ x.1 ∧ x.1 ≤ 5) → (∀ j : Int, 1 ≤ j → j ≤ 3 → N 101 j = u j) → ckO E f k i st u = ckQ E t → AW X b0 D true 0 0 (fx_Q X b0 D true 0 0 (fun r' n' M' => r' = (some (.inl (if ckQ E t = -1 then 1 else 0))) ∧ n' = n ∧ (M' 88 12 = ckQ E t ∧ frK M M'))) n N 50 [some (.inr 88), some (.inl t), some (.inl i), some (.inl k)] [] := by
    intro f
    induction f with
    | zero =>
      intro N i k st u G hfr hf hk1 hk2 hg har hz hrg hu hck
      refine A_ald0 hC d_Mo_checked_50 ?_
      refine A_getI (kI := 13) hC d_Mo_checked_51 fF_Mo_130 ⟨by decide, rfl⟩ rfl ly_88 (by omega) ?_
      refine A_ifle (tgt := 101) hC d_Mo_checked_54 (by decide) (fun h54 => ?_) (fun h54 => ?_)
      · refine A_ald0 hC d_Mo_checked_101 ?_
        refine A_iconst hC d_Mo_checked_102 (by decide) ?_
        refine A_putI (kI := 12) hC d_Mo_checked_103 fP_Mo_40 ⟨by decide, rfl⟩ rfl ly_88 (by omega) (fun _ => by decide) ?_
        refine A_iconst hC d_Mo_checked_106 (by decide) ?_
        refine A_zret hC d_Mo_checked_107 rfl (Nat.le_refl _) (Nat.le_refl _) (by first | decide | omega) ?_
        have hnil : st = [] := by
          cases st with
          | nil => rfl
          | cons a st' => simp at hz; omega
        subst hnil
        rw [ckO_nil] at hck
        exact ⟨fx_r (by rw [if_pos hck.symm]), rfl, by rw [up_eq]; exact hck, hfr.tr (frK_up (by decide))⟩
      · obtain ⟨a, st', rfl⟩ : ∃ a st', st = a :: st' := by
          cases st with
          | nil => simp at hz; omega
          | cons a st' => exact ⟨a, st', rfl⟩
        simp only [List.length_cons] at hk2
        have hz' : N 88 13 = (st'.length : Int) + 1 := by rw [hz]; simp
        have hgo : gOK E G i (a :: st') := hg.resolve_left (by simp)
        refine A_ald0 hC d_Mo_checked_57 ?_
        refine A_ild2 hC d_Mo_checked_58 ?_
        refine A_putI (kI := 12) hC d_Mo_checked_59 fP_Mo_40 ⟨by decide, rfl⟩ rfl ly_88 (by omega) (fun _ => by decide) ?_
        refine A_ild3 hC d_Mo_checked_62 ?_
        refine A_bipush hC d_Mo_checked_63 (by decide) (by decide) ?_
        refine A_icmpgt (tgt := 87) hC d_Mo_checked_65 (by decide) (fun h65 => ?_) (fun h65 => ?_)
        · refine A_iconst hC d_Mo_checked_87 (by decide) ?_
          refine A_zret hC d_Mo_checked_88 rfl (Nat.le_refl _) (Nat.le_refl _) (by first | decide | omega) ?_
          rw [ckO_0] at hck
          obtain ⟨T, d, G', hG⟩ : ∃ T d G', G = (T, d) :: G' := by
            cases G with
            | nil => exact absurd hgo (by simp [gOK])
            | cons q G' => exact ⟨q.1, q.2, G', rfl⟩
          subst hG
          have hi0 := hgo.2.2.1
          have hT0 := hgo.1
          exact ⟨fx_r (by rw [if_neg (by omega)]), rfl, by rw [up_eq]; exact hck, hfr.tr (frK_up (by decide))⟩
        · exact absurd h65 (by omega)
    | succ f ih =>
      intro N i k st u G hfr hf hk1 hk2 hg har hz hrg hu hck
      refine A_ald0 hC d_Mo_checked_50 ?_
      refine A_getI (kI := 13) hC d_Mo_checked_51 fF_Mo_130 ⟨by decide, rfl⟩ rfl ly_88 (by omega) ?_
      refine A_ifle (tgt := 101) hC d_Mo_checked_54 (by decide) (fun h54 => ?_) (fun h54 => ?_)
      · refine A_ald0 hC d_Mo_checked_101 ?_
        refine A_iconst hC d_Mo_checked_102 (by decide) ?_
        refine A_putI (kI := 12) hC d_Mo_checked_103 fP_Mo_40 ⟨by decide, rfl⟩ rfl ly_88 (by omega) (fun _ => by decide) ?_
        refine A_iconst hC d_Mo_checked_106 (by decide) ?_
        refine A_zret hC d_Mo_checked_107 rfl (Nat.le_refl _) (Nat.le_refl _) (by first | decide | omega) ?_
        have hnil : st = [] := by
          cases st with
          | nil => rfl
          | cons a st' => simp at hz; omega
        subst hnil
        rw [ckO_nil] at hck
        exact ⟨fx_r (by rw [if_pos hck.symm]), rfl, by rw [up_eq]; exact hck, hfr.tr (frK_up (by decide))⟩
      · obtain ⟨a, st', rfl⟩ : ∃ a st', st = a :: st' := by
          cases st with
          | nil => simp at hz; omega
          | cons a st' => exact ⟨a, st', rfl⟩
        simp only [List.length_cons] at hk2
        have hz' : N 88 13 = (st'.length : Int) + 1 := by rw [hz]; simp
        have hgo : gOK E G i (a :: st') := hg.resolve_left (by simp)
        obtain ⟨T, d, G', rfl⟩ : ∃ T d G', G = (T, d) :: G' := by
          cases G with
          | nil => exact absurd hgo (by simp [gOK])
          | cons q G' => exact ⟨q.1, q.2, G', rfl⟩
        have hi0 := hgo.2.2.1
        have hT0 := hgo.1
        have hlT := hX.1 T
        have htk := hX.2 i (by omega) (by omega)
        have frP : frK N (up N 88 12 i) := frK_up (by decide)
        have hMp : MT E (up N 88 12 i) := (hM.of hfr).of frP
        have hBp : MB (up N 88 12 i) := (hB.of hfr).of frP
        have ha5 := hrg a List.mem_cons_self
        have hup : ∀ j : Int, 1 ≤ j → j ≤ 3 → up N 88 12 i 101 j = u j := fun j j1 j2 => by rw [up_nc (by decide)]; exact hu j j1 j2
        have harp : arS (up N 88 12 i) (a :: st') := arS_eq (M := N) _ (fun j _ _ => ⟨up_nc (by decide), up_nc (by decide)⟩) har
        have hzp : up N 88 12 i 88 13 = ((a :: st').length : Nat) := by rw [up_nk (by decide)]; exact hz
        have htk' : tokP (up N 88 12 i 96 i) (up N 88 12 i 97 i) (up N 88 12 i 98 i) := by rw [hMp.2.1, hMp.2.2.1, hMp.2.2.2.1]; exact htk
        have eT : N 99 (N 88 13 - 1) = a.1 := by rw [hz', show (st'.length : Int) + 1 - 1 = st'.length by omega]; exact har.1
        refine A_ald0 hC d_Mo_checked_57 ?_
        refine A_ild2 hC d_Mo_checked_58 ?_
        refine A_putI (kI := 12) hC d_Mo_checked_59 fP_Mo_40 ⟨by decide, rfl⟩ rfl ly_88 (by omega) (fun _ => by decide) ?_
        refine A_ild3 hC d_Mo_checked_62 ?_
        refine A_bipush hC d_Mo_checked_63 (by decide) (by decide) ?_
        refine A_icmpgt (tgt := 87) hC d_Mo_checked_65 (by decide) (fun h65 => ?_) (fun h65 => ?_)
        · exact absurd h65 (by omega)
        · refine A_ald0 hC d_Mo_checked_68 ?_
          refine A_ald0 hC d_Mo_checked_69 ?_
          refine A_getCR (v := 99) hC d_Mo_checked_70 fF_Mo_44 ⟨by decide, rfl⟩ ly_88 (by omega) ⟨rfl, by decide⟩ cv_88_14 ?_
          refine A_ald0 hC d_Mo_checked_73 ?_
          refine A_getIE (x := N 88 13) (kI := 13) hC d_Mo_checked_74 fF_Mo_130 ⟨by decide, rfl⟩ rfl ly_88 (by omega) (by rw [up_nk (k := 12) (k' := 13) (by decide)]) ?_
          refine A_iconst hC d_Mo_checked_77 (by decide) ?_
          refine A_isub hC d_Mo_checked_78 (by omega) ?_
          refine A_ialdE (x := N 99 ((N 88 13) - 1)) hC d_Mo_checked_79 ly_99 (by omega) (by omega) (by rw [up_nc (c := 88) (c' := 99) (by decide)]) ?_
          refine A_eqi eT ?_
          refine A_ild2 hC d_Mo_checked_80 ?_
          refine A_VF1 (as := [.inl a.1, .inl i]) hC d_Mo_checked_81 mv_Mo_right lk_Mo_137 (by decide) sel_Mo_right hq_Mo ly_88 (by omega) (k_Mo_right l n (up N 88 12 i) hn hBp a.1 i ha5 (by omega) htk') rfl rfl (Nat.le_of_ble_eq_true rfl) ⟨Nat.zero_le _, Nat.zero_le _⟩ rfl ?_
          refine A_ifne (tgt := 89) hC d_Mo_checked_84 (by decide) (fun h84 => ?_) (fun h84 => ?_)
          · refine A_ald0 hC d_Mo_checked_89 ?_
            refine A_ild2 hC d_Mo_checked_90 ?_
            refine A_VF1 (as := [.inl i]) hC d_Mo_checked_91 mv_Mo_through lk_Mo_140 (by decide) sel_Mo_through hq_Mo ly_88 (by omega) (k_Mo_through l n (up N 88 12 i) hn i (by omega) (by rw [up_nk (by decide)]; omega) htk' (fun q => by rw [hMp.2.1] at q; rw [up_nc (c := 88) (c' := 99) (by decide), up_nk (k := 12) (k' := 13) (by decide), eT]; have hrt : rgtP E a.1 i u := Classical.not_not.mp (fun q2 => h84 ((mRt_iff hMp hS ha5 htk hup).mpr q2)); have hh := (kO_in (E := E) (t := a.1) (f := E 15 i) (by have := hrt.2.1 q; omega)).1; have h5 := hS.1.2.1; omega)) rfl rfl (Nat.le_of_ble_eq_true rfl) ⟨Nat.zero_le _, Nat.zero_le _⟩ rfl ?_
            refine A_ist2 hC d_Mo_checked_94 ?_
            refine A_iinc3 hC d_Mo_checked_95 (by omega) ?_
            refine A_goto (tgt := 50) hC d_Mo_checked_98 (by decide) ?_
            have hrt : rgtP E a.1 i u := Classical.not_not.mp (fun q => h84 ((mRt_iff hMp hS ha5 htk hup).mpr q))
            rw [ckO_s, if_pos hrt] at hck
            obtain ⟨s1, s2, s3, s4, s5, s6⟩ := th_step (k := k) hMp hS harp hzp (by omega) htk hrt hrg hup
            obtain ⟨G2, hG2, -⟩ := gOK_step (k := k) hX hgo hrt
            rw [s3]
            have hlen : ((nxS E k i (a :: st')).length : Int) ≤ k + 1 := by
              have : (nxS E k i (a :: st')).length ≤ (a :: st').length + 1 := by
                unfold nxS
                repeat (first | (simp only [List.length_cons, List.length_tail]; omega) | split)
              simp only [List.length_cons] at this
              omega
            exact ih _ _ (k + 1) _ _ G2 ((hfr.tr frP).tr (fun c j a1 a2 a3 a4 => s6 c j a1 a2 a3 (a4.elim Or.inl (fun h => Or.inr h.2)))) (by omega) (by omega) hlen (Or.inr hG2) s1 s2 s4 s5 hck
          · refine A_iconst hC d_Mo_checked_87 (by decide) ?_
            refine A_zret hC d_Mo_checked_88 rfl (Nat.le_refl _) (Nat.le_refl _) (by first | decide | omega) ?_
            rw [ckO_s, if_neg ((mRt_iff hMp hS ha5 htk hup).mp h84)] at hck
            exact ⟨fx_r (by rw [if_neg (by omega)]), rfl, by rw [up_eq]; exact hck, hfr.tr (frK_up (by decide))⟩
  refine A_ald0 hC d_Mo_checked_0 ?_
  refine A_iconst hC d_Mo_checked_1 (by decide) ?_
  refine A_putI (kI := 12) hC d_Mo_checked_2 fP_Mo_40 ⟨by decide, rfl⟩ rfl ly_88 (by omega) (fun _ => by decide) ?_
  refine A_ald0 hC d_Mo_checked_5 ?_
  refine A_iconst hC d_Mo_checked_6 (by decide) ?_
  refine A_VF1 (as := [.inl 0]) hC d_Mo_checked_7 mv_Mo_good lk_Mo_127 (by decide) sel_Mo_good hq_Mo ly_88 (by omega) (k_Mo_good l n (up M 88 12 0) hn (hB.of (frK_up (by decide))) 0 (by decide)) rfl rfl (Nat.le_of_ble_eq_true rfl) ⟨Nat.zero_le _, Nat.zero_le _⟩ rfl ?_
  refine A_ifne (tgt := 15) hC d_Mo_checked_10 (by decide) (fun h10 => ?_) (fun h10 => ?_)
  · refine A_iconst hC d_Mo_checked_15 (by decide) ?_
    refine A_ist2 hC d_Mo_checked_16 ?_
    refine A_ild2 hC d_Mo_checked_17 ?_
    refine A_iconst hC d_Mo_checked_18 (by decide) ?_
    refine A_icmpge (tgt := 35) hC d_Mo_checked_19 (by decide) (fun h19 => ?_) (fun h19 => ?_)
    · exact absurd h19 (by decide)
    refine A_ald0 hC d_Mo_checked_22 ?_
    refine A_getCR (v := 101) hC d_Mo_checked_23 fF_Mo_50 ⟨by decide, rfl⟩ ly_88 (by omega) ⟨rfl, by decide⟩ cv_88_16 ?_
    refine A_ild2 hC d_Mo_checked_26 ?_
    refine A_iconst hC d_Mo_checked_27 (by decide) ?_
    refine A_zast hC d_Mo_checked_28 ly_101 (by omega) (by omega) (fun _ => kk_z _) (by first | decide | omega) ?_
    refine A_iinc2 hC d_Mo_checked_29 (by omega) ?_
    refine A_goto (tgt := 17) hC d_Mo_checked_32 (by decide) ?_
    refine A_ild2 hC d_Mo_checked_17 ?_
    refine A_iconst hC d_Mo_checked_18 (by decide) ?_
    refine A_icmpge (tgt := 35) hC d_Mo_checked_19 (by decide) (fun h19 => ?_) (fun h19 => ?_)
    · exact absurd h19 (by decide)
    refine A_ald0 hC d_Mo_checked_22 ?_
    refine A_getCR (v := 101) hC d_Mo_checked_23 fF_Mo_50 ⟨by decide, rfl⟩ ly_88 (by omega) ⟨rfl, by decide⟩ cv_88_16 ?_
    refine A_ild2 hC d_Mo_checked_26 ?_
    refine A_iconst hC d_Mo_checked_27 (by decide) ?_
    refine A_zast hC d_Mo_checked_28 ly_101 (by omega) (by omega) (fun _ => kk_z _) (by first | decide | omega) ?_
    refine A_iinc2 hC d_Mo_checked_29 (by omega) ?_
    refine A_goto (tgt := 17) hC d_Mo_checked_32 (by decide) ?_
    refine A_ild2 hC d_Mo_checked_17 ?_
    refine A_iconst hC d_Mo_checked_18 (by decide) ?_
    refine A_icmpge (tgt := 35) hC d_Mo_checked_19 (by decide) (fun h19 => ?_) (fun h19 => ?_)
    · exact absurd h19 (by decide)
    refine A_ald0 hC d_Mo_checked_22 ?_
    refine A_getCR (v := 101) hC d_Mo_checked_23 fF_Mo_50 ⟨by decide, rfl⟩ ly_88 (by omega) ⟨rfl, by decide⟩ cv_88_16 ?_
    refine A_ild2 hC d_Mo_checked_26 ?_
    refine A_iconst hC d_Mo_checked_27 (by decide) ?_
    refine A_zast hC d_Mo_checked_28 ly_101 (by omega) (by omega) (fun _ => kk_z _) (by first | decide | omega) ?_
    refine A_iinc2 hC d_Mo_checked_29 (by omega) ?_
    refine A_goto (tgt := 17) hC d_Mo_checked_32 (by decide) ?_
    refine A_ild2 hC d_Mo_checked_17 ?_
    refine A_iconst hC d_Mo_checked_18 (by decide) ?_
    refine A_icmpge (tgt := 35) hC d_Mo_checked_19 (by decide) (fun h19 => ?_) (fun h19 => ?_)
    · exact absurd h19 (by decide)
    refine A_ald0 hC d_Mo_checked_22 ?_
    refine A_getCR (v := 101) hC d_Mo_checked_23 fF_Mo_50 ⟨by decide, rfl⟩ ly_88 (by omega) ⟨rfl, by decide⟩ cv_88_16 ?_
    refine A_ild2 hC d_Mo_checked_26 ?_
    refine A_iconst hC d_Mo_checked_27 (by decide) ?_
    refine A_zast hC d_Mo_checked_28 ly_101 (by omega) (by omega) (fun _ => kk_z _) (by first | decide | omega) ?_
    refine A_iinc2 hC d_Mo_checked_29 (by omega) ?_
    refine A_goto (tgt := 17) hC d_Mo_checked_32 (by decide) ?_
    refine A_ild2 hC d_Mo_checked_17 ?_
    refine A_iconst hC d_Mo_checked_18 (by decide) ?_
    refine A_icmpge (tgt := 35) hC d_Mo_checked_19 (by decide) (fun h19 => ?_) (fun h19 => ?_)
    rotate_left
    · exact absurd h19 (by decide)
    refine A_ald0 hC d_Mo_checked_35 ?_
    refine A_iconst hC d_Mo_checked_36 (by decide) ?_
    refine A_putI (kI := 13) hC d_Mo_checked_37 fP_Mo_130 ⟨by decide, rfl⟩ rfl ly_88 (by omega) (fun _ => by decide) ?_
    refine A_ald0 hC d_Mo_checked_40 ?_
    refine A_ild1 hC d_Mo_checked_41 ?_
    refine A_iconst hC d_Mo_checked_42 (by decide) ?_
    refine A_VF0 (as := [.inl t, .inl (-1)]) hC d_Mo_checked_43 mv_Mo_enter lk_Mo_133 (by decide) sel_Mo_enter hq_Mo ly_88 (by omega) (show AF l m_Mo_enter 1 [.inr 88, .inl t, .inl (-1)] n (up (up (up (up (up (up M 88 12 0) 101 0 0) 101 (0 + 1) 0) 101 (0 + 1 + 1) 0) 101 (0 + 1 + 1 + 1) 0) 88 13 0) none (enM (up (up (up (up (up (up M 88 12 0) 101 0 0) 101 (0 + 1) 0) 101 (0 + 1 + 1) 0) 101 (0 + 1 + 1 + 1) 0) 88 13 0) t (-1)) from k_Mo_enter l n _ hn t (-1) (by rw [up_eq]; decide)) rfl rfl (Nat.le_of_ble_eq_true rfl) ⟨Nat.zero_le _, Nat.zero_le _⟩ rfl ?_
    refine A_iconst hC d_Mo_checked_46 (by decide) ?_
    refine A_ist2 hC d_Mo_checked_47 ?_
    refine A_iconst hC d_Mo_checked_48 (by decide) ?_
    refine A_ist3 hC d_Mo_checked_49 ?_
    have e1 : (up M 88 12 0) 96 = E 13 := funext (fun i => by rw [up_nc (by decide)]; exact hM.2.1 i)
    have e2 : (up M 88 12 0) 95 = E 12 := funext (fun i => by rw [up_nc (by decide)]; exact hM.1 i)
    rw [e1, e2] at h10
    have hg1 : gd (E 13) (E 12) 0 = 1 := by
      have := gdF_01 (E 13) (E 12 0).toNat (16 * 0) 1
      unfold gd at h10 ⊢
      omega
    have frZ : frK M (up (up (up (up (up (up M 88 12 0) 101 0 0) 101 (0 + 1) 0) 101 (0 + 1 + 1) 0) 101 (0 + 1 + 1 + 1) 0) 88 13 0) := (((((frK_up (by decide)).tr (frK_up (by decide))).tr (frK_up (by decide))).tr (frK_up (by decide))).tr (frK_up (by decide))).tr (frK_up (by decide))
    have z0 : (up (up (up (up (up (up M 88 12 0) 101 0 0) 101 (0 + 1) 0) 101 (0 + 1 + 1) 0) 101 (0 + 1 + 1 + 1) 0) 88 13 0) 88 13 = 0 := up_eq _ _ _ _
    refine loop 60 _ 0 1 [(t, -1, 0)] (fun _ => 0) [(0, 1)] (frZ.tr ?_) (by decide) (by decide) (by simp) (Or.inr (gOK_0 hX hg1 t)) (arS_en (st := []) z0 trivial) (by rw [enM_z, z0]; rfl) (fun x hx => ?_) (fun j j1 j2 => ?_) (by unfold ckQ; rw [if_neg h10])
    · intro c j a1 a2 a3 a4
      exact enM_n a1 a2 (a4.elim Or.inl (fun h => Or.inr h.2))
    · rw [List.mem_singleton.mp hx]; exact ht
    · rw [enM_n (by decide) (by decide) (Or.inl (by decide)), up_nc (by decide)]
      have hj : j = 1 ∨ j = 2 ∨ j = 3 := by omega
      rcases hj with rfl | rfl | rfl <;> rfl
  · refine A_iconst hC d_Mo_checked_13 (by decide) ?_
    refine A_zret hC d_Mo_checked_14 rfl (Nat.le_refl _) (Nat.le_refl _) (by first | decide | omega) ?_
    have e1 : (up M 88 12 0) 96 = E 13 := funext (fun i => by rw [up_nc (by decide)]; exact hM.2.1 i)
    have e2 : (up M 88 12 0) 95 = E 12 := funext (fun i => by rw [up_nc (by decide)]; exact hM.1 i)
    rw [e1, e2] at h10
    exact ⟨fx_r (by unfold ckQ; rw [if_pos h10]; rfl), rfl, by rw [up_eq]; unfold ckQ; rw [if_pos h10], frK_up (by decide)⟩
