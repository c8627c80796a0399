/-- the value of an ENTRY -/
def VALC (l : Launch) (n : Nat) (B : Mem) (z : Int) (d : Nat) : Prop := ∀ (M : Mem) (s : SA) (here : List Int) (e : Int) (es : List Int) (r deep : Int), deep + 1 + (d : Int) = 14 → 1 ≤ deep → kp B M → ASt M s here → 2 * (s.2.2.length : Int) + 1 ≤ s.2.1 → (here.length : Int) ≤ 2 * deep - 1 → (1 ≤ r ∧ r ≤ 12) → inP z (e :: es) → SETS M (e :: es) → 20 < e → isEP B e → AX l m_As_workOutValue (11 + 3 * d) [.inr 81, .inl r, .inr e, .inl deep] n M (fun v M' => RES (valE B (objE B d (e :: es)) r e here s) here v M' ∧ ff B (e :: es) M M')
set_option maxHeartbeats 4000000 in
theorem VALC_of (l : Launch) (n : Nat) (B : Mem) (hn : 117 ≤ n) (z : Int) (hP : PLN B z) (hR : ROW B) (d : Nat) (hO : OBJC l n B z d) : VALC l n B z d := by
  intro M s here e es r deep hd hd1 hk hA hp hl hr hi hS he20 hE
  refine AM_intro (by decide) (Nat.le_of_ble_eq_true rfl) (fun X b0 D hC _ => ?_)
  show AW X b0 D true 0 0 _ n M 0 [some (.inr 81), some (.inl r), some (.inr e), some (.inl deep)] []
  have he := (hS.2.1 e List.mem_cons_self).1
  have he3 : M e 3 = B e 3 := hk e 3 (Or.inl he.2) (by omega)
  have he8 : M e 8 = B e 8 := hk e 8 (Or.inl he.2) (by omega)
  have hA_b := ASt_b hA
  have he1 : M e 1 = B e 1 := hk e 1 (Or.inl he.2) (by omega)
  have he7 : M e 7 = B e 7 := hk e 7 (Or.inl he.2) (by omega)
  have hz := hP.1
  have hb : ¬ M e 1 = 2 → 0 ≤ B e 3 ∧ B e 3 ≤ 3 := fun q => (hP.2.2 e he20 (hi e List.mem_cons_self).2).2.2.1 (by rcases hE with h | h | h <;> omega)
  have hRM := ROW_kp hk hR
  have h7 := hRM.2.2.2 (r - 1)
  have h7B : M 7 (r - 1) = B 7 (r - 1) := hk 7 _ (by decide) (by omega)
  have h8B : ∀ y : Int, M 8 y = B 8 y := fun y => hk 8 y (by decide) (by omega)
  refine A_ald2 hC d_As_workOutValue_0 ?_
  refine A_getI (kI := 1) hC d_As_workOutValue_1 fF_As_95 ⟨by decide, rfl⟩ rfl (ly_S (by omega)) (by omega) ?_
  refine A_iconst hC d_As_workOutValue_4 (by decide) ?_
  refine A_icmpne (tgt := 26) hC d_As_workOutValue_5 (by decide) (fun h5 => ?_) (fun h5 => ?_)
  · refine A_ald2 hC d_As_workOutValue_26 ?_
    refine A_getI (kI := 7) hC d_As_workOutValue_27 fF_As_98 ⟨by decide, rfl⟩ rfl (ly_S (by omega)) (by omega) ?_
    refine A_lsw (td := 72) [(1, 56), (2, 64)] hC d_As_workOutValue_30 (by decide) (by decide) (by decide) ⟨fun h30 => ?_, fun h30_0 => ⟨fun h30 => ?_, fun h30_1 => ?_⟩⟩
    · refine A_ald0 hC d_As_workOutValue_56 ?_
      refine A_ild1 hC d_As_workOutValue_57 ?_
      refine A_ald2 hC d_As_workOutValue_58 ?_
      refine A_ild3 hC d_As_workOutValue_59 ?_
      refine A_VX (as := [.inl r, .inr e, .inl deep]) hC d_As_workOutValue_60 mv_As_workOutLink lk_As_101 (by omega) sel_As_workOutLink hq_As ly_81 (by omega) (k_As_workOutLink l n M hn B z hP hR d hO s here e es r deep hd hd1 hk hA hp hl hr hi hS (hb h5)) rfl rfl (Nat.le_of_ble_eq_true rfl) ⟨Nat.zero_le _, Nat.zero_le _⟩ rfl (fun v M1 hv => ?_)
      refine A_zret hC d_As_workOutValue_63 rfl (Nat.le_refl _) (Nat.le_refl _) (by exact hv.1.1) ?_
      refine ⟨rfl, _, rfl, ?_, hv.2⟩
      unfold valE
      rw [if_neg (by omega), if_pos (by omega)]
      exact hv.1
    · refine A_ald0 hC d_As_workOutValue_64 ?_
      refine A_ild1 hC d_As_workOutValue_65 ?_
      refine A_ald2 hC d_As_workOutValue_66 ?_
      refine A_ild3 hC d_As_workOutValue_67 ?_
      refine A_VX (as := [.inl r, .inr e, .inl deep]) hC d_As_workOutValue_68 mv_As_workOutMany lk_As_104 (by omega) sel_As_workOutMany hq_As ly_81 (by omega) (k_As_workOutMany l n M hn B z hP hR d hO s here e es r deep hd hd1 hk hA hp hl hr hi hS (hb h5)) rfl rfl (Nat.le_of_ble_eq_true rfl) ⟨Nat.zero_le _, Nat.zero_le _⟩ rfl (fun v M1 hv => ?_)
      refine A_zret hC d_As_workOutValue_71 rfl (Nat.le_refl _) (Nat.le_refl _) (by exact hv.1.1) ?_
      refine ⟨rfl, _, rfl, ?_, hv.2⟩
      unfold valE
      rw [if_neg (by omega), if_neg (by omega), if_pos (by omega)]
      exact hv.1
    · refine A_ald0 hC d_As_workOutValue_72 ?_
      refine A_ild1 hC d_As_workOutValue_73 ?_
      refine A_ald2 hC d_As_workOutValue_74 ?_
      refine A_VF1 (as := [.inl r, .inr e]) hC d_As_workOutValue_75 mv_As_workOutNumber lk_As_107 (by omega) sel_As_workOutNumber hq_As ly_81 (by omega) (k_As_workOutNumber l n M hn hA_b.2.1 hA_b.2.2.1 hA_b.2.2.2 r e he hr (by have := hb h5; omega) (hRM.1 _)) rfl rfl (Nat.le_of_ble_eq_true rfl) ⟨Nat.zero_le _, Nat.zero_le _⟩ rfl ?_
      refine A_zret hC d_As_workOutValue_78 rfl (Nat.le_refl _) (Nat.le_refl _) (by repeat (first | omega | split)) ?_
      refine ⟨rfl, _, rfl, ?_, ?_⟩
      · unfold valE
        rw [if_neg (by omega), if_neg (by omega), if_neg (by omega), he3, ← h8B]
        by_cases q : M 8 (celE B r e) = -1
        · rw [if_pos q, if_pos q, if_pos q]
          exact RES_non hA hp he8
        · rw [if_neg q, if_neg q, if_neg q]
          exact RES_say hA
      · refine ff_0 ?_
        split
        · exact f0_no
        · exact f0_ad
  · refine A_ald0 hC d_As_workOutValue_8 ?_
    refine A_sipush hC d_As_workOutValue_9 (by decide) (by decide) ?_
    refine A_ald0 hC d_As_workOutValue_12 ?_
    refine A_getCR (v := 6) hC d_As_workOutValue_13 fF_As_22 ⟨by decide, rfl⟩ ly_81 (by omega) ⟨rfl, by decide⟩ cv_81_0 ?_
    refine A_ild1 hC d_As_workOutValue_16 ?_
    refine A_VF1 (as := [.inl r]) hC d_As_workOutValue_17 mv_Ro_typeOf lk_As_79 (by omega) sel_Ro_typeOf hq_Ro ly_6 (by omega) (k_Ro_typeOf l n M hn r (by omega)) rfl rfl (Nat.le_of_ble_eq_true rfl) ⟨Nat.zero_le _, Nat.zero_le _⟩ rfl ?_
    refine A_iadd hC d_As_workOutValue_20 (by omega) ?_
    refine A_VF0 (as := [.inl (2000 + (M 7 (r - 1)))]) hC d_As_workOutValue_21 mv_As_addCode lk_As_54 (by omega) sel_As_addCode hq_As ly_81 (by omega) (k_As_addCode l n M hn (2000 + (M 7 (r - 1))) hA_b.2.1) rfl rfl (Nat.le_of_ble_eq_true rfl) ⟨Nat.zero_le _, Nat.zero_le _⟩ rfl ?_
    refine A_iconst hC d_As_workOutValue_24 (by decide) ?_
    refine A_zret hC d_As_workOutValue_25 rfl (Nat.le_refl _) (Nat.le_refl _) (by first | decide | omega) ?_
    refine ⟨rfl, _, rfl, ?_, ff_0 f0_ad⟩
    unfold valE
    rw [if_pos (by omega), ← h7B]
    exact RES_say hA
theorem fl_nodup : ∀ {es : List (List Int)} {e : List Int}, es.flatten.Nodup → e ∈ es → e.Nodup
  | [], _, _, h => absurd h List.not_mem_nil
  | a :: es, e, hn, h => by
    rw [List.flatten_cons, List.nodup_append] at hn
    rcases List.mem_cons.mp h with rfl | h
    · exact hn.1
    · exact fl_nodup hn.2.1 h
theorem headD_c {α : Type} (L : List α) (d : α) : L = [] ∨ ∃ a t, L = a :: t := by cases L with
  | nil => exact Or.inl rfl
  | cons a t => exact Or.inr ⟨a, t, rfl⟩
set_option maxHeartbeats 8000000 in
theorem OBJC_s (l : Launch) (n : Nat) (B : Mem) (hn : 117 ≤ n) (z : Int) (hP : PLN B z) (hR : ROW B) (d : Nat) (hV : VALC l n B z d) : OBJC l n B z (d + 1) := by
  intro M s here r c0 rs deep hd hd1 hk hA hl hr hi hS
  refine AM_intro (by decide) (Nat.le_of_ble_eq_true rfl) (fun X b0 D hC _ => ?_)
  have hz := hP.1
  have hl26 : here.length < 26 := by omega
  have hsA := hA.1.2.2
  generalize hRR : objE B (d + 1) (c0 :: rs) r here s = RR
  show AW X b0 D true 0 0 (fx_Q X b0 D true 0 0 (fun r' n' M' => n' = n ∧ ∃ v : Int, r' = some (.inl v) ∧ RES RR here v M' ∧ ff B (c0 :: rs) M M')) n M 0 [some (.inr 81), some (.inl r), some (.inr c0), some (.inl deep), none, none, none, none] []
  have stop103 : ∀ (N : Mem) (x ent st ok cur : Int), (ok = 0 ∨ ok = 1) → STP N x here → ff B (c0 :: rs) M N → RR = .inl x → AW X b0 D true 0 0 (fx_Q X b0 D true 0 0 (fun r' n' M' => n' = n ∧ ∃ v : Int, r' = some (.inl v) ∧ RES RR here v M' ∧ ff B (c0 :: rs) M M')) n N 103 [some (.inr 81), some (.inl r), some (.inr c0), some (.inl deep), some (.inr ent), some (.inl st), some (.inl ok), some (.inr cur)] [] := by
    intro N x ent st ok cur hok hSt hf hq
    have hs6 := (STP_b hSt).1
    refine A_ald0 hC d_As_workOutObject_103 ?_
    refine A_iconst hC d_As_workOutObject_104 (by decide) ?_
    refine A_VF0 (as := [.inl 3]) hC d_As_workOutObject_105 mv_As_addCode lk_As_54 (by omega) sel_As_addCode hq_As ly_81 (by omega) (k_As_addCode l n N hn 3 (STP_b hSt).2.1) rfl rfl (Nat.le_of_ble_eq_true rfl) ⟨Nat.zero_le _, Nat.zero_le _⟩ rfl ?_
    rw [STP_ad hSt]
    refine A_ild6 hC d_As_workOutObject_108 ?_
    refine A_ifne (tgt := 126) hC d_As_workOutObject_110 (by decide) (fun h110 => ?_) (fun h110 => ?_)
    · refine A_ild6 hC d_As_workOutObject_126 ?_
      refine A_zret hC d_As_workOutObject_128 rfl (Nat.le_refl _) (Nat.le_refl _) (by first | decide | omega) ?_
      refine ⟨rfl, _, rfl, ⟨hok, ?_⟩, hf⟩
      rw [hq]
      exact hSt
    · refine A_ald0 hC d_As_workOutObject_113 ?_
      refine A_getI (kI := 6) hC d_As_workOutObject_114 fF_As_43 ⟨by decide, rfl⟩ rfl ly_81 (by omega) ?_
      refine A_ifne (tgt := 126) hC d_As_workOutObject_117 (by decide) (fun h117 => ?_) (fun h117 => ?_)
      · refine A_ild6 hC d_As_workOutObject_126 ?_
        refine A_zret hC d_As_workOutObject_128 rfl (Nat.le_refl _) (Nat.le_refl _) (by first | decide | omega) ?_
        refine ⟨rfl, _, rfl, ⟨hok, ?_⟩, hf⟩
        rw [hq]
        exact hSt
      · exact absurd h117 hs6
  have stop27 : ∀ (N : Mem) (x ent st ok cur : Int), (ok = 0 ∨ ok = 1) → STP N x here → ff B (c0 :: rs) M N → RR = .inl x → AW X b0 D true 0 0 (fx_Q X b0 D true 0 0 (fun r' n' M' => n' = n ∧ ∃ v : Int, r' = some (.inl v) ∧ RES RR here v M' ∧ ff B (c0 :: rs) M M')) n N 27 [some (.inr 81), some (.inl r), some (.inr c0), some (.inl deep), some (.inr ent), some (.inl st), some (.inl ok), some (.inr cur)] [] := by
    intro N x ent st ok cur hok hSt hf hq
    have hs6 := (STP_b hSt).1
    refine A_ald7 hC d_As_workOutObject_27 ?_
    refine A_ifnull (tgt := 103) hC d_As_workOutObject_29 (by decide) (fun h29 => ?_) (fun h29 => ?_)
    · exact stop103 N x ent st ok cur hok hSt hf hq
    · refine A_ald0 hC d_As_workOutObject_32 ?_
      refine A_getI (kI := 6) hC d_As_workOutObject_33 fF_As_43 ⟨by decide, rfl⟩ rfl ly_81 (by omega) ?_
      refine A_ifne (tgt := 103) hC d_As_workOutObject_36 (by decide) (fun h36 => ?_) (fun h36 => ?_)
      · exact stop103 N x ent st ok cur hok hSt hf hq
      · exact absurd h36 hs6
  have tail103 : ∀ (N : Mem) (ent ok cur : Int) (s2 : SA), (ok = 0 ∨ ok = 1) → ASt N s2 here → ff B (c0 :: rs) M N → EXT s s2 → s.2.1 + 1 ≤ s2.2.1 → RR = objT s ok s2 → AW X b0 D true 0 0 (fx_Q X b0 D true 0 0 (fun r' n' M' => n' = n ∧ ∃ v : Int, r' = some (.inl v) ∧ RES RR here v M' ∧ ff B (c0 :: rs) M M')) n N 103 [some (.inr 81), some (.inl r), some (.inr c0), some (.inl deep), some (.inr ent), some (.inl ((s.1.length : Int))), some (.inl ok), some (.inr cur)] [] := by
    intro N ent ok cur s2 hok hAN hf hx hx2 hq
    have hb3 := ASt_b hAN
    unfold objT at hq
    rcases ASt_say hAN 3 with ⟨s3, h1, h2, h3, h4⟩ | ⟨h1, h2⟩
    · rw [h1] at hq
      dsimp only at hq
      have hx3 : EXT s s3 := EXT_t hx (sayE_ext h1).1
      have hb4 := ASt_b h2
      have hs3 := h2.2.1.2
      refine A_ald0 hC d_As_workOutObject_103 ?_
      refine A_iconst hC d_As_workOutObject_104 (by decide) ?_
      refine A_VF0 (as := [.inl 3]) hC d_As_workOutObject_105 mv_As_addCode lk_As_54 (by omega) sel_As_addCode hq_As ly_81 (by omega) (k_As_addCode l n N hn 3 hb3.2.1) rfl rfl (Nat.le_of_ble_eq_true rfl) ⟨Nat.zero_le _, Nat.zero_le _⟩ rfl ?_
      refine A_ild6 hC d_As_workOutObject_108 ?_
      refine A_ifne (tgt := 126) hC d_As_workOutObject_110 (by decide) (fun h110 => ?_) (fun h110 => ?_)
      · refine A_ild6 hC d_As_workOutObject_126 ?_
        refine A_zret hC d_As_workOutObject_128 rfl (Nat.le_refl _) (Nat.le_refl _) (by first | decide | omega) ?_
        refine ⟨rfl, _, rfl, ⟨hok, ?_⟩, ff_tr hf (ff_0 f0_ad)⟩
        rw [hq, if_pos (by omega)]
        exact ⟨by omega, h2⟩
      · refine A_ald0 hC d_As_workOutObject_113 ?_
        refine A_getI (kI := 6) hC d_As_workOutObject_114 fF_As_43 ⟨by decide, rfl⟩ rfl ly_81 (by omega) ?_
        refine A_ifne (tgt := 126) hC d_As_workOutObject_117 (by decide) (fun h117 => ?_) (fun h117 => ?_)
        · exact absurd hb4.1 h117
        · refine A_ald0 hC d_As_workOutObject_120 ?_
          refine A_ild5 hC d_As_workOutObject_121 ?_
          refine A_VF0 (as := [.inl ((s.1.length : Int))]) hC d_As_workOutObject_123 mv_As_cutBack lk_As_76 (by omega) sel_As_cutBack hq_As ly_81 (by omega) (k_As_cutBack l n (adC N 3) hn ((s.1.length : Int)) (by omega)) rfl rfl (Nat.le_of_ble_eq_true rfl) ⟨Nat.zero_le _, Nat.zero_le _⟩ rfl ?_
          refine A_ild6 hC d_As_workOutObject_126 ?_
          refine A_zret hC d_As_workOutObject_128 rfl (Nat.le_refl _) (Nat.le_refl _) (by first | decide | omega) ?_
          refine ⟨rfl, _, rfl, ⟨hok, ?_⟩, ff_tr hf (ff_0 (f0_t f0_ad (f0_t (f0_up (by decide)) (f0_up (by decide)))))⟩
          rw [hq, if_neg (by omega)]
          exact ⟨by omega, ASt_cut h2 hx3 (by omega)⟩
    · rw [h1] at hq
      dsimp only at hq
      have hSt : STP (adC N 3) (-5) here := by rw [h2]; exact ASt_stop hAN (by decide)
      have hs6 := (STP_b hSt).1
      refine A_ald0 hC d_As_workOutObject_103 ?_
      refine A_iconst hC d_As_workOutObject_104 (by decide) ?_
      refine A_VF0 (as := [.inl 3]) hC d_As_workOutObject_105 mv_As_addCode lk_As_54 (by omega) sel_As_addCode hq_As ly_81 (by omega) (k_As_addCode l n N hn 3 hb3.2.1) rfl rfl (Nat.le_of_ble_eq_true rfl) ⟨Nat.zero_le _, Nat.zero_le _⟩ rfl ?_
      refine A_ild6 hC d_As_workOutObject_108 ?_
      refine A_ifne (tgt := 126) hC d_As_workOutObject_110 (by decide) (fun h110 => ?_) (fun h110 => ?_)
      · refine A_ild6 hC d_As_workOutObject_126 ?_
        refine A_zret hC d_As_workOutObject_128 rfl (Nat.le_refl _) (Nat.le_refl _) (by first | decide | omega) ?_
        refine ⟨rfl, _, rfl, ⟨hok, ?_⟩, ff_tr hf (ff_0 f0_ad)⟩
        rw [hq]
        exact hSt
      · refine A_ald0 hC d_As_workOutObject_113 ?_
        refine A_getI (kI := 6) hC d_As_workOutObject_114 fF_As_43 ⟨by decide, rfl⟩ rfl ly_81 (by omega) ?_
        refine A_ifne (tgt := 126) hC d_As_workOutObject_117 (by decide) (fun h117 => ?_) (fun h117 => ?_)
        · refine A_ild6 hC d_As_workOutObject_126 ?_
          refine A_zret hC d_As_workOutObject_128 rfl (Nat.le_refl _) (Nat.le_refl _) (by first | decide | omega) ?_
          refine ⟨rfl, _, rfl, ⟨hok, ?_⟩, ff_tr hf (ff_0 f0_ad)⟩
          rw [hq]
          exact hSt
        · exact absurd h117 hs6
  have main : ∀ (es : List (List Int)), cO B (B 7 (r - 1)) (c0 :: rs) [] = some es → (∀ e ∈ es, e ≠ []) → es.flatten.Nodup → ∀ (es2 : List (List Int)) (N : Mem) (ent ok cur : Int) (s2 : SA), (∀ e ∈ es2, e ∈ es) → (cur = (es2.map hdE).headD (-1) ∨ (cur < 0 ∧ es2 = [])) → nxL N 9 (es2.map hdE) → (∀ e ∈ es2, nxL N 10 e) → (ok = 0 ∨ ok = 1) → kp B N → ASt N s2 here → ff B (c0 :: rs) M N → EXT s s2 → s.2.1 + 1 ≤ s2.2.1 → RR = objL B d r here s es2 ok s2 → AW X b0 D true 0 0 (fx_Q X b0 D true 0 0 (fun r' n' M' => n' = n ∧ ∃ v : Int, r' = some (.inl v) ∧ RES RR here v M' ∧ ff B (c0 :: rs) M M')) n N 27 [some (.inr 81), some (.inl r), some (.inr c0), some (.inl deep), some (.inr ent), some (.inl ((s.1.length : Int))), some (.inl ok), some (.inr cur)] [] := by
    intro es hes hne hnd es2
    have hac := cO_ac hP (ty := B 7 (r - 1)) hi (SETS_ac hP hk hi hS).2 (c0 :: rs) [] [] es rfl (fun c hc => by simp at hc) (fun p hp => by simp at hp) hes
    have fl : ∀ e ∈ es, ∀ c ∈ e, c ∈ es.flatten := fun e he c hc => List.mem_flatten.mpr ⟨e, he, hc⟩
    have hrg : ∀ c ∈ es.flatten, 20 < c ∧ c < 20 + z := fun c hc => inR_rg hP hi (hac.1 c hc).2
    have hout : ∀ e ∈ es, ∀ c ∈ es.flatten, ¬ inR B e c := fun e he c hc q => by
      obtain ⟨p, p1, p2, p3⟩ := q
      exact hac.2 p (fl e he p p1) c hc ⟨p2, p3⟩
    have hsub : ∀ e ∈ es, ∀ c : Int, inR B e c → inR B (c0 :: rs) c := fun e he c hc => inR_tr hP hi (fun c hc => (hac.1 c (fl e he c hc)).2) hc
    induction es2 with
    | nil =>
      intro N ent ok cur s2 hsub2 hcur h9 h10 hok hkN hAN hf hx hx2 hq
      have hc0 : cur < 0 := by
        rcases hcur with q | q
        · rw [q]; decide
        · exact q.1
      have hq2 : RR = objT s ok s2 := hq
      refine A_ald7 hC d_As_workOutObject_27 ?_
      refine A_ifnull (tgt := 103) hC d_As_workOutObject_29 (by decide) (fun h29 => ?_) (fun h29 => ?_)
      · exact tail103 N ent ok cur s2 hok hAN hf hx hx2 hq2
      · exact absurd hc0 h29
    | cons e es2 ih =>
      intro N ent ok cur s2 hsub2 hcur h9 h10 hok hkN hAN hf hx hx2 hq
      have hem : e ∈ es := hsub2 e List.mem_cons_self
      obtain ⟨h, t, rfl⟩ : ∃ h t, e = h :: t := by
        cases e with
        | nil => exact absurd rfl (hne [] hem)
        | cons h t => exact ⟨h, t, rfl⟩
      have hcur2 : cur = h := by
        rcases hcur with q | q
        · exact q
        · exact absurd q.2 (by simp)
      subst hcur2
      have hm : cur ∈ es.flatten := fl _ hem cur List.mem_cons_self
      have hcr := hrg cur hm
      have hE := (hac.1 cur hm).1
      have hpl := hP.2.2 cur hcr.1 hcr.2
      have hp2 := hpl.2.2.2 hE
      have hin : inP z (cur :: t) := fun p hp => by have := hrg p (fl _ hem p hp); omega
      have hl81 : ∀ c ∈ cur :: t, c < 81 := fun c hc => by have := hin c hc; omega
      have hnd2 : (cur :: t).Nodup := fl_nodup hnd hem
      have hAC : AC B (cur :: t) := fun p hp c hc => hac.2 p (fl _ hem p hp) c (fl _ hem c hc)
      have hN2 : N cur 2 = B cur 2 := hkN cur 2 (Or.inl (by omega)) (by omega)
      have hbN := ASt_b hAN
      have h9h : ∀ x : Int, N cur 9 = x → (x = (es2.map hdE).headD (-1) ∨ (x < 0 ∧ es2 = [])) := by
        intro x hx9
        rcases headD_c es2 [] with q | ⟨a, b, q⟩
        · subst q
          have h9' : N cur 9 < 0 := h9
          exact Or.inr ⟨by omega, rfl⟩
        · subst q
          have h9' : N cur 9 = hdE a ∧ nxL N 9 (hdE a :: b.map hdE) := h9
          exact Or.inl (by rw [← hx9]; exact h9'.1)
      have h9t : nxL N 9 (es2.map hdE) := by
        rcases headD_c es2 [] with q | ⟨a, b, q⟩
        · subst q; trivial
        · subst q
          have h9' : N cur 9 = hdE a ∧ nxL N 9 (hdE a :: b.map hdE) := h9
          exact h9'.2
      have hqE : entE B (objE B d) r here ((cur :: t) :: es2) ok s2 = (match sayE (10 + B cur 2) s2 with
          | .inl x => .inl x
          | .inr s1 => match valE B (objE B d (cur :: t)) r cur (here ++ [B cur 2]) s1 with
            | .inl x => .inl x
            | .inr (v, s2) => entE B (objE B d) r here es2 (if v = 1 ∧ ok = 1 then 1 else 0) s2) := rfl
      unfold objL at hq
      rw [hqE] at hq
      have fin : ∀ (N1 : Mem) (x ok2 : Int), (ok2 = 0 ∨ ok2 = 1) → STP N1 x (here ++ [B cur 2]) → ff B (c0 :: rs) M N1 → RR = .inl x → AW X b0 D true 0 0 (fx_Q X b0 D true 0 0 (fun r' n' M' => n' = n ∧ ∃ v : Int, r' = some (.inl v) ∧ RES RR here v M' ∧ ff B (c0 :: rs) M M')) n N1 84 [some (.inr 81), some (.inl r), some (.inr c0), some (.inl deep), some (.inr ent), some (.inl ((s.1.length : Int))), some (.inl ok), some (.inr cur)] [.inl ok2] := by
        intro N1 x ok2 hok2 hSt hf1 hq1
        have hbS := STP_b hSt
        refine A_ist6 hC d_As_workOutObject_84 ?_
        refine A_ald0 hC d_As_workOutObject_86 ?_
        refine A_getCR (v := 83) hC d_As_workOutObject_87 fF_As_12 ⟨by decide, rfl⟩ ly_81 (by omega) ⟨rfl, by decide⟩ cv_81_2 ?_
        refine A_VF0 (as := []) hC d_As_workOutObject_90 mv_Pa_goOut lk_As_69 (by omega) sel_Pa_goOut hq_Pa ly_83 (by omega) (k_Pa_goOut l n N1 hn (by omega)) rfl rfl (Nat.le_of_ble_eq_true rfl) ⟨Nat.zero_le _, Nat.zero_le _⟩ rfl ?_
        refine A_ald7 hC d_As_workOutObject_93 ?_
        refine A_getR (kI := 9) hC d_As_workOutObject_95 fF_As_72 ⟨by decide, rfl⟩ rfl (ly_S (by omega)) (by omega) ?_
        refine A_ast7 hC d_As_workOutObject_98 ?_
        refine A_goto (tgt := 27) hC d_As_workOutObject_100 (by decide) ?_
        exact stop27 (goO N1) x ent _ ok2 _ hok2 (STP_out hSt) (ff_tr hf1 (ff_0 f0_out)) hq1
      rcases ASt_say hAN (10 + N cur 2) with ⟨s3, h1, h2, h3, h4⟩ | ⟨h1, h2⟩
      · rw [hN2] at h1
        rw [h1] at hq
        dsimp only at hq
        have hbS := ASt_b h2
        have hkS : kp B (adC N (10 + N cur 2)) := kp_0 hkN f0_ad
        have hS2 : adC N (10 + N cur 2) cur 2 = B cur 2 := hkS cur 2 (Or.inl (by omega)) (by omega)
        have hAI := ASt_in h2 (B cur 2) hl26
        have hkI : kp B (goI (adC N (10 + N cur 2)) (B cur 2)) := kp_0 hkS f0_in
        have hcI : nxL (goI (adC N (10 + N cur 2)) (B cur 2)) 10 (cur :: t) := nxL_0 (f0_t f0_ad f0_in) hl81 (h10 _ List.mem_cons_self)
        have hSI := SETS_of hP hkI hin hAC hnd2 hcI
        have hAN5 := hAN.2.2.2.2.2.1
        refine A_ald7 hC d_As_workOutObject_27 ?_
        refine A_ifnull (tgt := 103) hC d_As_workOutObject_29 (by decide) (fun h29 => ?_) (fun h29 => ?_)
        · exact absurd h29 (by omega)
        · refine A_ald0 hC d_As_workOutObject_32 ?_
          refine A_getI (kI := 6) hC d_As_workOutObject_33 fF_As_43 ⟨by decide, rfl⟩ rfl ly_81 (by omega) ?_
          refine A_ifne (tgt := 103) hC d_As_workOutObject_36 (by decide) (fun h36 => ?_) (fun h36 => ?_)
          · exact absurd hbN.1 h36
          · refine A_ald0 hC d_As_workOutObject_39 ?_
            refine A_bipush hC d_As_workOutObject_40 (by decide) (by decide) ?_
            refine A_ald7 hC d_As_workOutObject_42 ?_
            refine A_getI (kI := 2) hC d_As_workOutObject_44 fF_As_58 ⟨by decide, rfl⟩ rfl (ly_S (by omega)) (by omega) ?_
            refine A_iadd hC d_As_workOutObject_47 (by omega) ?_
            refine A_VF0 (as := [.inl (10 + (N cur 2))]) hC d_As_workOutObject_48 mv_As_addCode lk_As_54 (by omega) sel_As_addCode hq_As ly_81 (by omega) (k_As_addCode l n N hn (10 + (N cur 2)) hbN.2.1) rfl rfl (Nat.le_of_ble_eq_true rfl) ⟨Nat.zero_le _, Nat.zero_le _⟩ rfl ?_
            refine A_ald0 hC d_As_workOutObject_51 ?_
            refine A_getCR (v := 83) hC d_As_workOutObject_52 fF_As_12 ⟨by decide, rfl⟩ ly_81 (by omega) ⟨rfl, by decide⟩ cv_81_2 ?_
            refine A_ald7 hC d_As_workOutObject_55 ?_
            refine A_getI (kI := 2) hC d_As_workOutObject_57 fF_As_58 ⟨by decide, rfl⟩ rfl (ly_S (by omega)) (by omega) ?_
            refine A_eqi hS2 ?_
            refine A_VF0 (as := [.inl (B cur 2)]) hC d_As_workOutObject_60 mv_Pa_goInto lk_As_63 (by omega) sel_Pa_goInto hq_Pa ly_83 (by omega) (k_Pa_goInto l n (adC N (10 + (N cur 2))) hn (B cur 2) (by omega)) rfl rfl (Nat.le_of_ble_eq_true rfl) ⟨Nat.zero_le _, Nat.zero_le _⟩ rfl ?_
            refine A_ald0 hC d_As_workOutObject_63 ?_
            refine A_ild1 hC d_As_workOutObject_64 ?_
            refine A_ald7 hC d_As_workOutObject_65 ?_
            refine A_ild3 hC d_As_workOutObject_67 ?_
            refine A_VX (as := [.inl r, .inr cur, .inl deep]) hC d_As_workOutObject_68 mv_As_workOutValue lk_As_66 (by omega) sel_As_workOutValue hq_As ly_81 (by omega) (hV (goI (adC N (10 + N cur 2)) (B cur 2)) s3 (here ++ [B cur 2]) cur t r deep (by omega) hd1 hkI hAI (by rw [h3, h4]; omega) (by simp; omega) hr hin hSI hcr.1 hE) rfl rfl (Nat.le_of_ble_eq_true rfl) ⟨Nat.zero_le _, Nat.zero_le _⟩ rfl (fun v M1 hv => ?_)
            obtain ⟨hv, hvf⟩ := hv
            have hv1 := hv.1
            have hk1 : kp B M1 := kp_ff hP hin hkI hvf
            have hvf2 : ff B (c0 :: rs) M M1 := ff_tr hf (ff_tr (ff_0 (f0_t f0_ad f0_in)) (ff_sub (hsub _ hem) hvf))
            have keep : ∀ c ∈ es.flatten, ∀ y : Int, M1 c y = N c y := fun c hc y => by
              have hc2 := hrg c hc
              rw [hvf c y (Or.inl (by omega)) (fun q => hout _ hem c hc q.1), f0_t f0_ad f0_in c y (Or.inl (by omega))]
            have hko : ∀ c ∈ es.flatten, ∀ y : Int, goO M1 c y = N c y := fun c hc y => by
              have hc2 := hrg c hc
              rw [f0_out c y (Or.inl (by omega)), keep c hc y]
            have join : ∀ ok2 : Int, ok2 = (if v = 1 ∧ ok = 1 then 1 else 0) → AW X b0 D true 0 0 (fx_Q X b0 D true 0 0 (fun r' n' M' => n' = n ∧ ∃ v : Int, r' = some (.inl v) ∧ RES RR here v M' ∧ ff B (c0 :: rs) M M')) n M1 84 [some (.inr 81), some (.inl r), some (.inr c0), some (.inl deep), some (.inr ent), some (.inl ((s.1.length : Int))), some (.inl ok), some (.inr cur)] [.inl ok2] := by
              intro ok2 hok2
              have hok3 : ok2 = 0 ∨ ok2 = 1 := by rw [hok2]; split <;> simp
              cases hob : valE B (objE B d (cur :: t)) r cur (here ++ [B cur 2]) s3 with
              | inl x =>
                rw [hob] at hv hq
                exact fin M1 x ok2 hok3 hv.2 hvf2 hq
              | inr ws =>
                obtain ⟨w, s4⟩ := ws
                rw [hob] at hv hq
                have hv2 : v = w ∧ ASt M1 s4 (here ++ [B cur 2]) := hv.2
                have hbS := ASt_b hv2.2
                have hx5 : EXT s3 s4 := valE_ext (objE_ext d (cur :: t)) hob
                have hx6 := (sayE_ext h1).1
                refine A_ist6 hC d_As_workOutObject_84 ?_
                refine A_ald0 hC d_As_workOutObject_86 ?_
                refine A_getCR (v := 83) hC d_As_workOutObject_87 fF_As_12 ⟨by decide, rfl⟩ ly_81 (by omega) ⟨rfl, by decide⟩ cv_81_2 ?_
                refine A_VF0 (as := []) hC d_As_workOutObject_90 mv_Pa_goOut lk_As_69 (by omega) sel_Pa_goOut hq_Pa ly_83 (by omega) (k_Pa_goOut l n M1 hn (by omega)) rfl rfl (Nat.le_of_ble_eq_true rfl) ⟨Nat.zero_le _, Nat.zero_le _⟩ rfl ?_
                refine A_ald7 hC d_As_workOutObject_93 ?_
                refine A_getR (kI := 9) hC d_As_workOutObject_95 fF_As_72 ⟨by decide, rfl⟩ rfl (ly_S (by omega)) (by omega) ?_
                refine A_ast7 hC d_As_workOutObject_98 ?_
                refine A_goto (tgt := 27) hC d_As_workOutObject_100 (by decide) ?_
                refine ih (goO M1) ent ok2 (goO M1 cur 9) s4 (fun e he => hsub2 e (List.mem_cons_of_mem _ he)) (h9h _ (hko cur hm 9).symm) (nxL_eq _ (fun c hc => ?_) h9t) (fun e he => nxL_eq e (fun c hc => hko c (fl e (hsub2 e (List.mem_cons_of_mem _ he)) c hc) 10) (h10 e (List.mem_cons_of_mem _ he))) hok3 (kp_0 hk1 f0_out) (ASt_out hv2.2) (ff_tr hvf2 (ff_0 f0_out)) (EXT_t hx (EXT_t hx6 hx5)) (by have := hx5.2; have := hx6.2; omega) ?_
                · obtain ⟨e, he, hce⟩ := List.mem_map.mp hc
                  have hes2 := hsub2 e (List.mem_cons_of_mem _ he)
                  exact hko c (fl e hes2 c (by rw [← hce]; exact hdE_mem (hne e hes2))) 9
                · rw [hq, hok2, hv2.1]
                  rfl
            refine A_ifeq (tgt := 83) hC d_As_workOutObject_71 (by decide) (fun h71 => ?_) (fun h71 => ?_)
            · refine A_iconst hC d_As_workOutObject_83 (by decide) ?_
              exact join _ (by first | rw [if_pos (by omega)] | rw [if_neg (by omega)])
            · refine A_ild6 hC d_As_workOutObject_74 ?_
              refine A_ifeq (tgt := 83) hC d_As_workOutObject_76 (by decide) (fun h76 => ?_) (fun h76 => ?_)
              · refine A_iconst hC d_As_workOutObject_83 (by decide) ?_
                exact join _ (by first | rw [if_pos (by omega)] | rw [if_neg (by omega)])
              · refine A_iconst hC d_As_workOutObject_79 (by decide) ?_
                refine A_goto (tgt := 84) hC d_As_workOutObject_80 (by decide) ?_
                exact join _ (by first | rw [if_pos (by omega)] | rw [if_neg (by omega)])
      · rw [hN2] at h1
        rw [h1] at hq
        dsimp only at hq
        have hSt : STP (adC N (10 + N cur 2)) (-5) here := by rw [h2]; exact ASt_stop hAN (by decide)
        have hbS := STP_b hSt
        have hkS : kp B (adC N (10 + N cur 2)) := kp_0 hkN f0_ad
        have hS2 : adC N (10 + N cur 2) cur 2 = B cur 2 := hkS cur 2 (Or.inl (by omega)) (by omega)
        have hSI := STP_in (p := B cur 2) hSt hl26
        have hkI : kp B (goI (adC N (10 + N cur 2)) (B cur 2)) := kp_0 hkS f0_in
        have hI3 : goI (adC N (10 + N cur 2)) (B cur 2) cur 3 = B cur 3 := hkI cur 3 (Or.inl (by omega)) (by omega)
        have hI1 : goI (adC N (10 + N cur 2)) (B cur 2) cur 1 = B cur 1 := hkI cur 1 (Or.inl (by omega)) (by omega)
        refine A_ald7 hC d_As_workOutObject_27 ?_
        refine A_ifnull (tgt := 103) hC d_As_workOutObject_29 (by decide) (fun h29 => ?_) (fun h29 => ?_)
        · exact absurd h29 (by omega)
        · refine A_ald0 hC d_As_workOutObject_32 ?_
          refine A_getI (kI := 6) hC d_As_workOutObject_33 fF_As_43 ⟨by decide, rfl⟩ rfl ly_81 (by omega) ?_
          refine A_ifne (tgt := 103) hC d_As_workOutObject_36 (by decide) (fun h36 => ?_) (fun h36 => ?_)
          · exact absurd hbN.1 h36
          · refine A_ald0 hC d_As_workOutObject_39 ?_
            refine A_bipush hC d_As_workOutObject_40 (by decide) (by decide) ?_
            refine A_ald7 hC d_As_workOutObject_42 ?_
            refine A_getI (kI := 2) hC d_As_workOutObject_44 fF_As_58 ⟨by decide, rfl⟩ rfl (ly_S (by omega)) (by omega) ?_
            refine A_iadd hC d_As_workOutObject_47 (by omega) ?_
            refine A_VF0 (as := [.inl (10 + (N cur 2))]) hC d_As_workOutObject_48 mv_As_addCode lk_As_54 (by omega) sel_As_addCode hq_As ly_81 (by omega) (k_As_addCode l n N hn (10 + (N cur 2)) hbN.2.1) rfl rfl (Nat.le_of_ble_eq_true rfl) ⟨Nat.zero_le _, Nat.zero_le _⟩ rfl ?_
            refine A_ald0 hC d_As_workOutObject_51 ?_
            refine A_getCR (v := 83) hC d_As_workOutObject_52 fF_As_12 ⟨by decide, rfl⟩ ly_81 (by omega) ⟨rfl, by decide⟩ cv_81_2 ?_
            refine A_ald7 hC d_As_workOutObject_55 ?_
            refine A_getI (kI := 2) hC d_As_workOutObject_57 fF_As_58 ⟨by decide, rfl⟩ rfl (ly_S (by omega)) (by omega) ?_
            refine A_eqi hS2 ?_
            refine A_VF0 (as := [.inl (B cur 2)]) hC d_As_workOutObject_60 mv_Pa_goInto lk_As_63 (by omega) sel_Pa_goInto hq_Pa ly_83 (by omega) (k_Pa_goInto l n (adC N (10 + (N cur 2))) hn (B cur 2) (by omega)) rfl rfl (Nat.le_of_ble_eq_true rfl) ⟨Nat.zero_le _, Nat.zero_le _⟩ rfl ?_
            refine A_ald0 hC d_As_workOutObject_63 ?_
            refine A_ild1 hC d_As_workOutObject_64 ?_
            refine A_ald7 hC d_As_workOutObject_65 ?_
            refine A_ild3 hC d_As_workOutObject_67 ?_
            refine A_VX (as := [.inl r, .inr cur, .inl deep]) hC d_As_workOutObject_68 mv_As_workOutValue lk_As_66 (by omega) sel_As_workOutValue hq_As ly_81 (by omega) (k_As_workOutValue_s l n (goI (adC N (10 + N cur 2)) (B cur 2)) hn (here ++ [B cur 2]) hSI (ROW_kp hkI hR) cur (by omega) r hr (fun q => by rw [hI3]; rw [hI1] at q; exact hpl.2.2.1 (by rcases hE with w | w | w <;> omega)) deep (by omega)) rfl rfl (Nat.le_of_ble_eq_true rfl) ⟨Nat.zero_le _, Nat.zero_le _⟩ rfl (fun v M1 hv => ?_)
            have hv1 := hv.1
            refine A_ifeq (tgt := 83) hC d_As_workOutObject_71 (by decide) (fun h71 => ?_) (fun h71 => ?_)
            · refine A_iconst hC d_As_workOutObject_83 (by decide) ?_
              exact fin M1 (-5) _ (by decide) hv.2.1 (ff_tr hf (ff_0 (f0_t (f0_t f0_ad f0_in) hv.2.2))) hq
            · refine A_ild6 hC d_As_workOutObject_74 ?_
              refine A_ifeq (tgt := 83) hC d_As_workOutObject_76 (by decide) (fun h76 => ?_) (fun h76 => ?_)
              · refine A_iconst hC d_As_workOutObject_83 (by decide) ?_
                exact fin M1 (-5) _ (by decide) hv.2.1 (ff_tr hf (ff_0 (f0_t (f0_t f0_ad f0_in) hv.2.2))) hq
              · refine A_iconst hC d_As_workOutObject_79 (by decide) ?_
                refine A_goto (tgt := 84) hC d_As_workOutObject_80 (by decide) ?_
                exact fin M1 (-5) _ (by decide) hv.2.1 (ff_tr hf (ff_0 (f0_t (f0_t f0_ad f0_in) hv.2.2))) hq
  refine A_ald0 hC d_As_workOutObject_0 ?_
  refine A_ild1 hC d_As_workOutObject_1 ?_
  refine A_ald2 hC d_As_workOutObject_2 ?_
  refine A_ild3 hC d_As_workOutObject_3 ?_
  refine A_VY (as := [.inl r, .inr c0, .inl deep]) hC d_As_workOutObject_4 mv_As_collectEntries lk_As_50 (by omega) sel_As_collectEntries hq_As ly_81 (by omega) (k_As_collectEntries l n M hn B z hP s here hk hA r c0 rs deep (by omega) hr hi hS) rfl rfl (Nat.le_of_ble_eq_true rfl) ⟨Nat.zero_le _, Nat.zero_le _⟩ rfl (fun v M1 hv => ?_)
  obtain ⟨⟨hv1, hv2⟩, hf1⟩ := hv
  have hcod : COD M1 := by
    cases hc : cO B (B 7 (r - 1)) (c0 :: rs) [] with
    | none => exact (STP_b (hv1 hc)).2.1
    | some es => exact (ASt_b (hv2 es hc).2.2).2.1
  refine A_ast4 hC d_As_workOutObject_7 ?_
  refine A_ald0 hC d_As_workOutObject_9 ?_
  refine A_getI (kI := 4) hC d_As_workOutObject_10 fF_As_30 ⟨by decide, rfl⟩ rfl ly_81 (by omega) ?_
  refine A_ist5 hC d_As_workOutObject_13 ?_
  refine A_iconst hC d_As_workOutObject_15 (by decide) ?_
  refine A_ist6 hC d_As_workOutObject_16 ?_
  refine A_ald0 hC d_As_workOutObject_18 ?_
  refine A_iconst hC d_As_workOutObject_19 (by decide) ?_
  refine A_VF0 (as := [.inl 2]) hC d_As_workOutObject_20 mv_As_addCode lk_As_54 (by omega) sel_As_addCode hq_As ly_81 (by omega) (k_As_addCode l n M1 hn 2 hcod) rfl rfl (Nat.le_of_ble_eq_true rfl) ⟨Nat.zero_le _, Nat.zero_le _⟩ rfl ?_
  refine A_ald4 hC d_As_workOutObject_23 ?_
  refine A_ast7 hC d_As_workOutObject_25 ?_
  cases hc : cO B (B 7 (r - 1)) (c0 :: rs) [] with
  | none =>
    have hSt := hv1 hc
    rw [STP_ad hSt]
    refine stop27 M1 (-4) v _ 1 v (Or.inr rfl) hSt hf1 ?_
    rw [← hRR]
    unfold objE
    rw [hc]
  | some es =>
    obtain ⟨hv3, hEN, hA1⟩ := hv2 es hc
    have hst : M1 81 4 = (s.1.length : Int) := hA1.1.1
    rw [hst]
    rcases ASt_say hA1 2 with ⟨s1, h1, h2, h3, h4⟩ | ⟨h1, h2⟩
    · refine main es hc (fun e he => (hEN.1 e he).1) hEN.2.2.2.2.1 es (adC M1 2) v 1 v s1 (fun e he => he) (Or.inl hv3) ?_ ?_ (Or.inr rfl) (kp_0 (kp_ff hP hi hk hf1) f0_ad) h2 (ff_tr hf1 (ff_0 f0_ad)) (sayE_ext h1).1 (by omega) ?_
      · exact nxL_0 f0_ad (fun c hc2 => (hEN.2.2.2.2.2 c (heads_in (fun e he => (hEN.1 e he).1) hc2)).2) hEN.2.1
      · exact fun e he => nxL_0 f0_ad (fun c hc2 => (hEN.2.2.2.2.2 c (List.mem_flatten.mpr ⟨e, he, hc2⟩)).2) (hEN.1 e he).2
      · rw [← hRR]
        exact objE_s hc h1
    · rw [h2]
      refine stop27 (up M1 81 6 (-5)) (-5) v _ 1 v (Or.inr rfl) (ASt_stop hA1 (by decide)) (ff_tr hf1 (ff_0 (f0_up (by decide)))) ?_
      rw [← hRR]
      unfold objE
      rw [hc]
      dsimp only
      rw [h1]
theorem OBJC_all (l : Launch) (n : Nat) (B : Mem) (hn : 117 ≤ n) (z : Int) (hP : PLN B z) (hR : ROW B) : ∀ d : Nat, OBJC l n B z d
  | 0 => OBJC_0 l n B hn z
  | d + 1 => OBJC_s l n B hn z hP hR d (VALC_of l n B hn z hP hR d (OBJC_all l n B hn z hP hR d))
