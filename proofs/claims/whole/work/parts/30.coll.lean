-- ===== the Collector: chains of steps
/-- the cells of a list are chained through slot sl, the last one has null there -/
def nxL (M : Mem) (sl : Int) : List Int → Prop
  | [] => True
  | [c] => M c sl < 0
  | c :: d :: r => M c sl = d ∧ nxL M sl (d :: r)
def fndN (M : Mem) (nm : Int) : List Int → Int
  | [] => -1
  | c :: r => if M c 2 = nm then c else fndN M nm r
theorem fndN_c {M : Mem} {nm c : Int} {r : List Int} : fndN M nm (c :: r) = if M c 2 = nm then c else fndN M nm r := rfl
set_option maxHeartbeats 4000000 in
theorem k_Co_isPassedOver (l : Launch) (n : Nat) (M : Mem) (hn : 117 ≤ n) (s t : Int) (hs : 20 ≤ s ∧ s < 81) (ha : M s 1 = 4 → 0 ≤ M s 2 ∧ M s 2 ≤ 3) : AF l m_Co_isPassedOver 1 [.inr 82, .inr s, .inl t] n M (some (.inl (if M s 1 = 1 ∨ (M s 1 = 3 ∧ ¬ M s 2 = t) ∨ (M s 1 = 4 ∧ ¬ M 16 (M s 2) = M s 3) then 1 else 0))) M := by
  refine AM_intro (by decide) (Nat.le_of_ble_eq_true rfl) (fun X b0 D hC _ => ?_)
  show AW X b0 D true 0 0 _ n M 0 [some (.inr 82), some (.inr s), some (.inl t)] []
  refine A_ald1 hC d_Co_isPassedOver_0 ?_
  refine A_getI (kI := 1) hC d_Co_isPassedOver_1 fF_Co_66 ⟨by decide, rfl⟩ rfl (ly_S (by omega)) (by omega) ?_
  refine A_tsw (td := 74) [36, 74, 38, 52] hC d_Co_isPassedOver_4 (by decide) (by decide) (by decide) ⟨fun h4 => ?_, fun h4 => ?_, fun h4 => ?_, fun h4 => ?_, trivial⟩ (fun h4 => ?_)
  · refine A_iconst hC d_Co_isPassedOver_36 (by decide) ?_
    refine A_zret hC d_Co_isPassedOver_37 rfl (Nat.le_refl _) (Nat.le_refl _) (by first | decide | omega) ?_
    exact ⟨fx_r (by split <;> omega), rfl, rfl⟩
  · refine A_iconst hC d_Co_isPassedOver_74 (by decide) ?_
    refine A_zret hC d_Co_isPassedOver_75 rfl (Nat.le_refl _) (Nat.le_refl _) (by first | decide | omega) ?_
    exact ⟨fx_r (by split <;> omega), rfl, rfl⟩
  · refine A_ald1 hC d_Co_isPassedOver_38 ?_
    refine A_getI (kI := 2) hC d_Co_isPassedOver_39 fF_Co_69 ⟨by decide, rfl⟩ rfl (ly_S (by omega)) (by omega) ?_
    refine A_ild2 hC d_Co_isPassedOver_42 ?_
    refine A_icmpeq (tgt := 50) hC d_Co_isPassedOver_43 (by decide) (fun h43 => ?_) (fun h43 => ?_)
    · refine A_iconst hC d_Co_isPassedOver_50 (by decide) ?_
      refine A_zret hC d_Co_isPassedOver_51 rfl (Nat.le_refl _) (Nat.le_refl _) (by first | decide | omega) ?_
      exact ⟨fx_r (by split <;> omega), rfl, rfl⟩
    · refine A_iconst hC d_Co_isPassedOver_46 (by decide) ?_
      refine A_goto (tgt := 51) hC d_Co_isPassedOver_47 (by decide) ?_
      refine A_zret hC d_Co_isPassedOver_51 rfl (Nat.le_refl _) (Nat.le_refl _) (by first | decide | omega) ?_
      exact ⟨fx_r (by split <;> omega), rfl, rfl⟩
  · refine A_ald0 hC d_Co_isPassedOver_52 ?_
    refine A_getCR (v := 16) hC d_Co_isPassedOver_53 fF_Co_15 ⟨by decide, rfl⟩ ly_82 (by omega) ⟨rfl, by decide⟩ cv_82_1 ?_
    refine A_ald1 hC d_Co_isPassedOver_56 ?_
    refine A_getI (kI := 2) hC d_Co_isPassedOver_57 fF_Co_69 ⟨by decide, rfl⟩ rfl (ly_S (by omega)) (by omega) ?_
    refine A_iald hC d_Co_isPassedOver_60 ly_16 (by omega) (by omega) ?_
    refine A_ald1 hC d_Co_isPassedOver_61 ?_
    refine A_getI (kI := 3) hC d_Co_isPassedOver_62 fF_Co_72 ⟨by decide, rfl⟩ rfl (ly_S (by omega)) (by omega) ?_
    refine A_icmpeq (tgt := 72) hC d_Co_isPassedOver_65 (by decide) (fun h65 => ?_) (fun h65 => ?_)
    · refine A_iconst hC d_Co_isPassedOver_72 (by decide) ?_
      refine A_zret hC d_Co_isPassedOver_73 rfl (Nat.le_refl _) (Nat.le_refl _) (by first | decide | omega) ?_
      exact ⟨fx_r (by split <;> omega), rfl, rfl⟩
    · refine A_iconst hC d_Co_isPassedOver_68 (by decide) ?_
      refine A_goto (tgt := 73) hC d_Co_isPassedOver_69 (by decide) ?_
      refine A_zret hC d_Co_isPassedOver_73 rfl (Nat.le_refl _) (Nat.le_refl _) (by first | decide | omega) ?_
      exact ⟨fx_r (by split <;> omega), rfl, rfl⟩
  · refine A_iconst hC d_Co_isPassedOver_74 (by decide) ?_
    refine A_zret hC d_Co_isPassedOver_75 rfl (Nat.le_refl _) (Nat.le_refl _) (by first | decide | omega) ?_
    exact ⟨fx_r (by split <;> omega), rfl, rfl⟩
set_option maxHeartbeats 4000000 in
theorem k_Co_putBehind (l : Launch) (n : Nat) (M : Mem) (hn : 117 ≤ n) (c : Int) (r : List Int) (s : Int) (h : nxL M 10 (c :: r)) (hr : ∀ x ∈ c :: r, 20 ≤ x ∧ x < 81) : AF l m_Co_putBehind 1 [.inr c, .inr s] n M none (up M ((c :: r).getLastD 0) 10 s) := by
  refine AM_intro (by decide) (Nat.le_of_ble_eq_true rfl) (fun X b0 D hC _ => ?_)
  show AW X b0 D true 0 0 _ n M 0 [some (.inr c), some (.inr s), none] []
  have loop : ∀ (r : List Int) (d : Int), nxL M 10 (d :: r) → (∀ x ∈ d :: r, 20 ≤ x ∧ x < 81) → AW X b0 D true 0 0 (fx_Q X b0 D true 0 0 (fun r' n' M' => r' = none ∧ n' = n ∧ M' = up M ((d :: r).getLastD 0) 10 s)) n M 2 [some (.inr c), some (.inr s), some (.inr d)] [] := by
    intro r
    induction r with
    | nil =>
      intro d h hr
      have hd := hr d List.mem_cons_self
      have h : M d 10 < 0 := h
      refine A_ald2 hC d_Co_putBehind_2 ?_
      refine A_getR (kI := 10) hC d_Co_putBehind_3 fF_Co_63 ⟨by decide, rfl⟩ rfl (ly_S (by omega)) (by omega) ?_
      refine A_ifnull (tgt := 17) hC d_Co_putBehind_6 (by decide) (fun h6 => ?_) (fun h6 => ?_)
      · refine A_ald2 hC d_Co_putBehind_17 ?_
        refine A_ald1 hC d_Co_putBehind_18 ?_
        refine A_putR (kI := 10) hC d_Co_putBehind_19 fP_Co_63 ⟨by decide, rfl⟩ rfl (ly_S (by omega)) (by omega) (fun _ => by decide) ?_
        refine A_vret hC d_Co_putBehind_22 rfl (Nat.le_refl _) (Nat.le_refl _) ?_
        exact ⟨rfl, rfl, rfl⟩
      · exact absurd h h6
    | cons e r ih =>
      intro d h hr
      have hd := hr d List.mem_cons_self
      have he := hr e (List.mem_cons_of_mem _ List.mem_cons_self)
      obtain ⟨h1, h2⟩ : M d 10 = e ∧ nxL M 10 (e :: r) := h
      refine A_ald2 hC d_Co_putBehind_2 ?_
      refine A_getR (kI := 10) hC d_Co_putBehind_3 fF_Co_63 ⟨by decide, rfl⟩ rfl (ly_S (by omega)) (by omega) ?_
      refine A_ifnull (tgt := 17) hC d_Co_putBehind_6 (by decide) (fun h6 => ?_) (fun h6 => ?_)
      · exact absurd h6 (by omega)
      · refine A_ald2 hC d_Co_putBehind_9 ?_
        refine A_getR (kI := 10) hC d_Co_putBehind_10 fF_Co_63 ⟨by decide, rfl⟩ rfl (ly_S (by omega)) (by omega) ?_
        refine A_ast2 hC d_Co_putBehind_13 ?_
        refine A_goto (tgt := 2) hC d_Co_putBehind_14 (by decide) ?_
        rw [h1]
        exact ih e h2 (fun x hx => hr x (List.mem_cons_of_mem _ hx))
  refine A_ald0 hC d_Co_putBehind_0 ?_
  refine A_ast2 hC d_Co_putBehind_1 ?_
  exact loop r c h hr
set_option maxHeartbeats 4000000 in
theorem k_Co_entryNamed (l : Launch) (n : Nat) (M : Mem) (hn : 117 ≤ n) (hs : List Int) (nm : Int) (h0 : M 82 2 = hs.headD (-1)) (h : nxL M 9 hs) (hr : ∀ x ∈ hs, 20 ≤ x ∧ x < 81) : AF l m_Co_entryNamed 1 [.inr 82, .inl nm] n M (some (.inr (fndN M nm hs))) M := by
  refine AM_intro (by decide) (Nat.le_of_ble_eq_true rfl) (fun X b0 D hC _ => ?_)
  show AW X b0 D true 0 0 _ n M 0 [some (.inr 82), some (.inl nm), none] []
  have loop : ∀ (r : List Int) (d : Int), d = r.headD (-1) ∨ (d < 0 ∧ r = []) → nxL M 9 r → (∀ x ∈ r, 20 ≤ x ∧ x < 81) → fndN M nm r = fndN M nm hs → AW X b0 D true 0 0 (fx_Q X b0 D true 0 0 (fun r' n' M' => r' = (some (.inr (fndN M nm hs))) ∧ n' = n ∧ M' = M)) n M 5 [some (.inr 82), some (.inl nm), some (.inr d)] [] := by
    intro r
    induction r with
    | nil =>
      intro d hd h hr hf
      have hd : d < 0 := by
        rcases hd with q | q
        · have q : d = -1 := q
          omega
        · exact q.1
      refine A_ald2 hC d_Co_entryNamed_5 ?_
      refine A_ifnull (tgt := 27) hC d_Co_entryNamed_6 (by decide) (fun h6 => ?_) (fun h6 => ?_)
      · refine A_null hC d_Co_entryNamed_27 ?_
        refine A_aret hC d_Co_entryNamed_28 rfl (Nat.le_refl _) (Nat.le_refl _) ?_
        exact ⟨fx_rr hf, rfl, rfl⟩
      · exact absurd hd h6
    | cons e r ih =>
      intro d hd h hr hf
      have he := hr e List.mem_cons_self
      have hd : d = e := by
        rcases hd with q | q
        · exact q
        · exact absurd q.2 (by simp)
      subst hd
      refine A_ald2 hC d_Co_entryNamed_5 ?_
      refine A_ifnull (tgt := 27) hC d_Co_entryNamed_6 (by decide) (fun h6 => ?_) (fun h6 => ?_)
      · exact absurd h6 (by omega)
      · refine A_ald2 hC d_Co_entryNamed_9 ?_
        refine A_getI (kI := 2) hC d_Co_entryNamed_10 fF_Co_69 ⟨by decide, rfl⟩ rfl (ly_S (by omega)) (by omega) ?_
        refine A_ild1 hC d_Co_entryNamed_13 ?_
        refine A_icmpne (tgt := 19) hC d_Co_entryNamed_14 (by decide) (fun h14 => ?_) (fun h14 => ?_)
        · refine A_ald2 hC d_Co_entryNamed_19 ?_
          refine A_getR (kI := 9) hC d_Co_entryNamed_20 fF_Co_86 ⟨by decide, rfl⟩ rfl (ly_S (by omega)) (by omega) ?_
          refine A_ast2 hC d_Co_entryNamed_23 ?_
          refine A_goto (tgt := 5) hC d_Co_entryNamed_24 (by decide) ?_
          rw [fndN_c, if_neg h14] at hf
          cases r with
          | nil =>
            have h : M d 9 < 0 := h
            exact ih (M d 9) (Or.inr ⟨h, rfl⟩) trivial (fun x hx => absurd hx List.not_mem_nil) hf
          | cons e r =>
            have h : M d 9 = e ∧ nxL M 9 (e :: r) := h
            exact ih (M d 9) (Or.inl h.1) h.2 (fun x hx => hr x (List.mem_cons_of_mem _ hx)) hf
        · refine A_ald2 hC d_Co_entryNamed_17 ?_
          refine A_aret hC d_Co_entryNamed_18 rfl (Nat.le_refl _) (Nat.le_refl _) ?_
          exact ⟨fx_rr (by rw [← hf]; unfold fndN; rw [if_pos h14]), rfl, rfl⟩
  refine A_ald0 hC d_Co_entryNamed_0 ?_
  refine A_getR (kI := 2) hC d_Co_entryNamed_1 fF_Co_19 ⟨by decide, rfl⟩ rfl ly_82 (by omega) ?_
  refine A_ast2 hC d_Co_entryNamed_4 ?_
  exact loop hs (M 82 2) (Or.inl h0) h hr rfl
def adE (M : Mem) (s : Int) : Mem := if M 82 3 < 0 then up (up (up M s 9 (-1)) 82 2 s) 82 3 s else up (up (up M s 9 (-1)) (M 82 3) 9 s) 82 3 s
set_option maxHeartbeats 4000000 in
theorem k_Co_addEntry (l : Launch) (n : Nat) (M : Mem) (hn : 117 ≤ n) (s : Int) (hs : 20 ≤ s ∧ s < 81) (hl : M 82 3 < 0 ∨ (20 ≤ M 82 3 ∧ M 82 3 < 81)) : AF l m_Co_addEntry 1 [.inr 82, .inr s] n M none (adE M s) := by
  refine AM_intro (by decide) (Nat.le_of_ble_eq_true rfl) (fun X b0 D hC _ => ?_)
  show AW X b0 D true 0 0 _ n M 0 [some (.inr 82), some (.inr s)] []
  refine A_ald1 hC d_Co_addEntry_0 ?_
  refine A_null hC d_Co_addEntry_1 ?_
  refine A_putR (kI := 9) hC d_Co_addEntry_2 fP_Co_86 ⟨by decide, rfl⟩ rfl (ly_S (by omega)) (by omega) (fun _ => by decide) ?_
  refine A_ald0 hC d_Co_addEntry_5 ?_
  refine A_getRE (x := M 82 3) (kI := 3) hC d_Co_addEntry_6 fF_Co_23 ⟨by decide, rfl⟩ rfl ly_82 (by omega) (by rw [up_nk (k := 9) (k' := 3) (by decide)]) ?_
  refine A_ifnonnull (tgt := 20) hC d_Co_addEntry_9 (by decide) (fun h9 => ?_) (fun h9 => ?_)
  · refine A_ald0 hC d_Co_addEntry_20 ?_
    refine A_getRE (x := M 82 3) (kI := 3) hC d_Co_addEntry_21 fF_Co_23 ⟨by decide, rfl⟩ rfl ly_82 (by omega) (by rw [up_nk (k := 9) (k' := 3) (by decide)]) ?_
    refine A_ald1 hC d_Co_addEntry_24 ?_
    refine A_putR (kI := 9) hC d_Co_addEntry_25 fP_Co_86 ⟨by decide, rfl⟩ rfl (ly_S (by omega)) (by omega) (fun _ => by decide) ?_
    refine A_ald0 hC d_Co_addEntry_28 ?_
    refine A_ald1 hC d_Co_addEntry_29 ?_
    refine A_putR (kI := 3) hC d_Co_addEntry_30 fP_Co_23 ⟨by decide, rfl⟩ rfl ly_82 (by omega) (fun _ => by decide) ?_
    refine A_vret hC d_Co_addEntry_33 rfl (Nat.le_refl _) (Nat.le_refl _) ?_
    exact ⟨rfl, rfl, by unfold adE; first | rw [if_pos (by omega)] | rw [if_neg (by omega)]⟩
  · refine A_ald0 hC d_Co_addEntry_12 ?_
    refine A_ald1 hC d_Co_addEntry_13 ?_
    refine A_putR (kI := 2) hC d_Co_addEntry_14 fP_Co_19 ⟨by decide, rfl⟩ rfl ly_82 (by omega) (fun _ => by decide) ?_
    refine A_goto (tgt := 28) hC d_Co_addEntry_17 (by decide) ?_
    refine A_ald0 hC d_Co_addEntry_28 ?_
    refine A_ald1 hC d_Co_addEntry_29 ?_
    refine A_putR (kI := 3) hC d_Co_addEntry_30 fP_Co_23 ⟨by decide, rfl⟩ rfl ly_82 (by omega) (fun _ => by decide) ?_
    refine A_vret hC d_Co_addEntry_33 rfl (Nat.le_refl _) (Nat.le_refl _) ?_
    exact ⟨rfl, rfl, by unfold adE; first | rw [if_pos (by omega)] | rw [if_neg (by omega)]⟩
