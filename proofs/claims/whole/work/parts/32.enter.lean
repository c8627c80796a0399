theorem fndN_eq {M M' : Mem} {nm : Int} : ∀ (L : List Int), (∀ c ∈ L, M' c 2 = M c 2) → fndN M' nm L = fndN M nm L
  | [], _ => rfl
  | c :: r, h => by rw [fndN_c, fndN_c, h c List.mem_cons_self, fndN_eq r (fun x hx => h x (List.mem_cons_of_mem _ hx))]
/-- what the cells are when the step s has come to the ENTRIES es -/
def enQ (M M' : Mem) (s : Int) (es : List (List Int)) : Prop := (∀ c y : Int, c ≠ 82 → (c ∉ es.flatten ∧ c ≠ s) ∨ (y ≠ 9 ∧ y ≠ 10) → M' c y = M c y) ∧ (enP M s es = none → M' 82 4 = 1) ∧ ∀ es', enP M s es = some es' → ENT M' es' ∧ M' 82 4 = 0
set_option maxHeartbeats 4000000 in
theorem k_Co_enter (l : Launch) (n : Nat) (M : Mem) (hn : 117 ≤ n) (es : List (List Int)) (s : Int) (hE : ENT M es) (hs : 20 ≤ s ∧ s < 81) (hns : s ∉ es.flatten) (hcl : M 82 4 = 0) : AR l m_Co_enter 2 [.inr 82, .inr s] n M none (fun M' => enQ M M' s es) := by
  refine AM_intro (by decide) (Nat.le_of_ble_eq_true rfl) (fun X b0 D hC _ => ?_)
  show AW X b0 D true 0 0 _ n M 0 [some (.inr 82), some (.inr s), none] []
  have hne : ∀ e ∈ es, e ≠ [] := fun e he => (hE.1 e he).1
  have hhs : ∀ x ∈ es.map hdE, 20 ≤ x ∧ x < 81 := fun x hx => hE.2.2.2.2.2 x (heads_in hne hx)
  refine A_ald1 hC d_Co_enter_0 ?_
  refine A_null hC d_Co_enter_1 ?_
  refine A_putR (kI := 10) hC d_Co_enter_2 fP_Co_63 ⟨by decide, rfl⟩ rfl (ly_S (by omega)) (by omega) (fun _ => by decide) ?_
  refine A_ald0 hC d_Co_enter_5 ?_
  refine A_ald1 hC d_Co_enter_6 ?_
  refine A_getIE (x := M s 2) (kI := 2) hC d_Co_enter_7 fF_Co_69 ⟨by decide, rfl⟩ rfl (ly_S (by omega)) (by omega) (by rw [up_nk (k := 10) (k' := 2) (by decide)]) ?_
  refine A_VF1 (as := [.inl (M s 2)]) hC d_Co_enter_10 mv_Co_entryNamed lk_Co_75 (by decide) sel_Co_entryNamed hq_Co ly_82 (by omega) (k_Co_entryNamed l n (up M s 10 (-1)) hn (es.map hdE) (M s 2) (by rw [up_nc (by omega)]; exact hE.2.2.1) (nxL_eq _ (fun c _ => up_nk (by decide)) hE.2.1) hhs) rfl rfl (Nat.le_of_ble_eq_true rfl) ⟨Nat.zero_le _, Nat.zero_le _⟩ rfl ?_
  refine A_eqr (show _ = fndN M (M s 2) (es.map hdE) from fndN_eq _ (fun c _ => up_nk (by decide))) ?_
  refine A_ast2 hC d_Co_enter_13 ?_
  refine A_ald2 hC d_Co_enter_14 ?_
  refine A_ifnonnull (tgt := 26) hC d_Co_enter_15 (by decide) (fun h15 => ?_) (fun h15 => ?_)
  · rcases enP_cases M s es with ⟨q1, q2⟩ | ⟨es1, e, es2, q1, q2, q3⟩
    · omega
    have hee := hE.1 e (by rw [q1]; exact List.mem_append_right _ List.mem_cons_self)
    obtain ⟨c, r, rfl⟩ : ∃ c r, e = c :: r := by
      cases e with
      | nil => exact absurd rfl hee.1
      | cons c r => exact ⟨c, r, rfl⟩
    have q2 : fndN M (M s 2) (es.map hdE) = c := q2
    have q3 : enP M s es = if M c 1 = M s 1 ∧ (M s 1 = 2 ∨ M c 3 = M s 3) then some (es1 ++ (c :: r ++ [s]) :: es2) else none := q3
    have hce : ∀ x ∈ c :: r, x ∈ es.flatten := fun x hx => List.mem_flatten.mpr ⟨_, by rw [q1]; exact List.mem_append_right _ List.mem_cons_self, hx⟩
    have hcr := hE.2.2.2.2.2 c (hce c List.mem_cons_self)
    have hlast := getLastD_mem (c :: r) 0 (by simp)
    rw [q2]
    refine A_ald2 hC d_Co_enter_26 ?_
    refine A_getIE (x := M c 1) (kI := 1) hC d_Co_enter_27 fF_Co_66 ⟨by decide, rfl⟩ rfl (ly_S (by omega)) (by omega) (by rw [up_nk (k := 10) (k' := 1) (by decide)]) ?_
    refine A_ald1 hC d_Co_enter_30 ?_
    refine A_getIE (x := M s 1) (kI := 1) hC d_Co_enter_31 fF_Co_66 ⟨by decide, rfl⟩ rfl (ly_S (by omega)) (by omega) (by rw [up_nk (k := 10) (k' := 1) (by decide)]) ?_
    refine A_icmpne (tgt := 56) hC d_Co_enter_34 (by decide) (fun h34 => ?_) (fun h34 => ?_)
    · refine A_ald0 hC d_Co_enter_56 ?_
      refine A_iconst hC d_Co_enter_57 (by decide) ?_
      refine A_putZ (kI := 4) hC d_Co_enter_58 fP_Co_26 ⟨by decide, rfl⟩ rfl ly_82 (by omega) (fun _ => by decide) (by first | decide | omega) ?_
      refine A_goto (tgt := 69) hC d_Co_enter_61 (by decide) ?_
      refine A_vret hC d_Co_enter_69 rfl (Nat.le_refl _) (Nat.le_refl _) ?_
      refine ⟨rfl, rfl, fun c' y hc hy => ?_, fun _ => up_eq _ _ _ _, fun es' q => ?_⟩
      · rw [up_nc hc]
        rcases hy with hy | hy
        · exact up_nc hy.2
        · exact up_nk hy.2
      · rw [q3, if_neg (by omega)] at q
        cases q
    · refine A_ald1 hC d_Co_enter_37 ?_
      refine A_getIE (x := M s 1) (kI := 1) hC d_Co_enter_38 fF_Co_66 ⟨by decide, rfl⟩ rfl (ly_S (by omega)) (by omega) (by rw [up_nk (k := 10) (k' := 1) (by decide)]) ?_
      refine A_iconst hC d_Co_enter_41 (by decide) ?_
      refine A_icmpeq (tgt := 64) hC d_Co_enter_42 (by decide) (fun h42 => ?_) (fun h42 => ?_)
      · refine A_ald2 hC d_Co_enter_64 ?_
        refine A_ald1 hC d_Co_enter_65 ?_
        refine A_SF0 (as := [.inr c, .inr s]) hC d_Co_enter_66 mv_Co_putBehind lk_Co_82 (by decide) (k_Co_putBehind l n (up M s 10 (-1)) hn c r s (nxL_eq _ (fun x hx => up_nc (fun q => hns (by rw [← q]; exact hce x hx))) hee.2) (fun x hx => hE.2.2.2.2.2 x (hce x hx))) rfl rfl (Nat.le_of_ble_eq_true rfl) ⟨Nat.zero_le _, Nat.zero_le _⟩ rfl ?_
        refine A_vret hC d_Co_enter_69 rfl (Nat.le_refl _) (Nat.le_refl _) ?_
        refine ⟨rfl, rfl, fun c' y hc hy => ?_, fun q => ?_, fun es' q => ?_⟩
        · rcases hy with hy | hy
          · rw [up_nc (fun q => hy.1 (by rw [q, q1]; exact List.mem_flatten.mpr ⟨_, List.mem_append_right _ List.mem_cons_self, hlast⟩)), up_nc hy.2]
          · rw [up_nk hy.2, up_nk hy.2]
        · rw [q3, if_pos (by omega)] at q
          cases q
        · rw [q3, if_pos (by omega)] at q
          cases q
          refine ⟨ENT_put (by rw [← q1]; exact hE) hs (by rw [← q1]; exact hns), ?_⟩
          rw [up_nk (by decide), up_nk (by decide)]; exact hcl
      · refine A_ald2 hC d_Co_enter_45 ?_
        refine A_getIE (x := M c 3) (kI := 3) hC d_Co_enter_46 fF_Co_72 ⟨by decide, rfl⟩ rfl (ly_S (by omega)) (by omega) (by rw [up_nk (k := 10) (k' := 3) (by decide)]) ?_
        refine A_ald1 hC d_Co_enter_49 ?_
        refine A_getIE (x := M s 3) (kI := 3) hC d_Co_enter_50 fF_Co_72 ⟨by decide, rfl⟩ rfl (ly_S (by omega)) (by omega) (by rw [up_nk (k := 10) (k' := 3) (by decide)]) ?_
        refine A_icmpeq (tgt := 64) hC d_Co_enter_53 (by decide) (fun h53 => ?_) (fun h53 => ?_)
        · refine A_ald2 hC d_Co_enter_64 ?_
          refine A_ald1 hC d_Co_enter_65 ?_
          refine A_SF0 (as := [.inr c, .inr s]) hC d_Co_enter_66 mv_Co_putBehind lk_Co_82 (by decide) (k_Co_putBehind l n (up M s 10 (-1)) hn c r s (nxL_eq _ (fun x hx => up_nc (fun q => hns (by rw [← q]; exact hce x hx))) hee.2) (fun x hx => hE.2.2.2.2.2 x (hce x hx))) rfl rfl (Nat.le_of_ble_eq_true rfl) ⟨Nat.zero_le _, Nat.zero_le _⟩ rfl ?_
          refine A_vret hC d_Co_enter_69 rfl (Nat.le_refl _) (Nat.le_refl _) ?_
          refine ⟨rfl, rfl, fun c' y hc hy => ?_, fun q => ?_, fun es' q => ?_⟩
          · rcases hy with hy | hy
            · rw [up_nc (fun q => hy.1 (by rw [q, q1]; exact List.mem_flatten.mpr ⟨_, List.mem_append_right _ List.mem_cons_self, hlast⟩)), up_nc hy.2]
            · rw [up_nk hy.2, up_nk hy.2]
          · rw [q3, if_pos (by omega)] at q
            cases q
          · rw [q3, if_pos (by omega)] at q
            cases q
            refine ⟨ENT_put (by rw [← q1]; exact hE) hs (by rw [← q1]; exact hns), ?_⟩
            rw [up_nk (by decide), up_nk (by decide)]; exact hcl
        · refine A_ald0 hC d_Co_enter_56 ?_
          refine A_iconst hC d_Co_enter_57 (by decide) ?_
          refine A_putZ (kI := 4) hC d_Co_enter_58 fP_Co_26 ⟨by decide, rfl⟩ rfl ly_82 (by omega) (fun _ => by decide) (by first | decide | omega) ?_
          refine A_goto (tgt := 69) hC d_Co_enter_61 (by decide) ?_
          refine A_vret hC d_Co_enter_69 rfl (Nat.le_refl _) (Nat.le_refl _) ?_
          refine ⟨rfl, rfl, fun c' y hc hy => ?_, fun _ => up_eq _ _ _ _, fun es' q => ?_⟩
          · rw [up_nc hc]
            rcases hy with hy | hy
            · exact up_nc hy.2
            · exact up_nk hy.2
          · rw [q3, if_neg (by omega)] at q
            cases q
  · have hl3 : M 82 3 < 0 ∨ (20 ≤ M 82 3 ∧ M 82 3 < 81) := by
      have h4 := hE.2.2.2.1
      by_cases he : es.map hdE = []
      · rw [he] at h4; have h4 : M 82 3 = -1 := h4; omega
      · have hg := getLastD_mem (es.map hdE) (-1) he
        rw [← h4] at hg
        exact Or.inr (hhs _ hg)
    refine A_ald0 hC d_Co_enter_18 ?_
    refine A_ald1 hC d_Co_enter_19 ?_
    refine A_VF0 (as := [.inr s]) hC d_Co_enter_20 mv_Co_addEntry lk_Co_79 (by decide) sel_Co_addEntry hq_Co ly_82 (by omega) (k_Co_addEntry l n (up M s 10 (-1)) hn s hs (by rw [up_nc (by omega)]; exact hl3)) rfl rfl (Nat.le_of_ble_eq_true rfl) ⟨Nat.zero_le _, Nat.zero_le _⟩ rfl ?_
    refine A_goto (tgt := 69) hC d_Co_enter_23 (by decide) ?_
    refine A_vret hC d_Co_enter_69 rfl (Nat.le_refl _) (Nat.le_refl _) ?_
    rcases enP_cases M s es with ⟨q1, q2⟩ | ⟨es1, e, es2, q1, q2, q3⟩
    · refine ⟨rfl, rfl, fun c y hc hy => ?_, (fun q => by rw [q2] at q; cases q), fun es' q => ?_⟩
      · have e3 : up M s 10 (-1) 82 3 = M 82 3 := up_nc (by omega)
        unfold adE
        rw [e3]
        by_cases hl : M 82 3 < 0
        · rw [if_pos hl, up_nc hc, up_nc hc]
          unfold up
          rw [if_neg (by omega), if_neg (by omega)]
        · have hm : M 82 3 ∈ es.flatten := by
            have h4 := hE.2.2.2.1
            by_cases he : es.map hdE = []
            · rw [he] at h4; have h4 : M 82 3 = -1 := h4; omega
            · have hg := getLastD_mem (es.map hdE) (-1) he
              rw [← h4] at hg
              exact heads_in hne hg
          rw [if_neg hl, up_nc hc]
          rcases hy with hy | hy
          · rw [up_nc (fun q => hy.1 (by rw [q]; exact hm)), up_nc hy.2, up_nc hy.2]
          · rw [up_nk hy.1, up_nk hy.1, up_nk hy.2]
      · rw [q2] at q
        cases q
        refine ⟨ENT_add hE hs hns, ?_⟩
        unfold adE
        split
        · rw [up_nk (by decide), up_nk (by decide), up_nc (by omega), up_nc (by omega)]; exact hcl
        · rename_i hl
          have e3 : up M s 10 (-1) 82 3 = M 82 3 := up_nc (by omega)
          rw [e3] at hl ⊢
          rw [up_nk (by decide), up_nk (by decide), up_nc (by omega), up_nc (by omega)]; exact hcl
    · exfalso
      have := hhs (hdE e) (by rw [q1]; exact List.mem_map.mpr ⟨e, List.mem_append_right _ List.mem_cons_self, rfl⟩)
      omega
