/-- which cells writing out leaves alone -/
abbrev frC (c y : Int) : Prop := (c < 17 ∨ c = 18 ∨ 81 ≤ c) ∨ (c = 20 ∧ y ≠ 6)
theorem wM3_fr {M : Mem} {k s c y : Int} (hz : 1 ≤ M 17 4 ∧ M 17 4 ≤ 60) (h : frC c y) : wM3 M k s c y = M c y := wM3_n (by omega) (Or.inl (by omega))
theorem wO_fr : ∀ (f : Nat) (M : Mem) (t i s : Int), WI M → 20 ≤ s → s < 20 + M 17 4 → ∀ c y : Int, frC c y → (wO f M t i s).2 c y = M c y
  | 0, M, t, i, s, _, _, _, c, y, _ => rfl
  | f + 1, M, t, i, s, h, h1, h2, c, y, hc => by
    unfold wO
    have hz := h.2.2.2.1
    have hz3 := wM3_z (M := M) (k := t * 16 + i) (s := s) (by omega)
    split
    · show up M 19 t 0 c y = _
      exact up_nc (by omega)
    · split
      · show up M 17 5 (t * 16 + i) c y = _
        exact up_nc (by omega)
      · have h3f := wM3_fr (k := t * 16 + i) (s := s) (M := M) (by omega) hc
        split
        · show up (wM2 M (t * 16 + i) s) 17 5 (t * 16 + i) c y = _
          rw [up_nc (by omega)]
          exact wM2_n (by omega) (Or.inl (by omega))
        · have h3 := WI_3 (k := t * 16 + i) h (by omega) ⟨h1, h2⟩
          have hs := h.2.2.2.2 s h1 h2
          split
          · have h4 : WI (up (wM3 M (t * 16 + i) s) 19 (M 14 (t * 16 + i)) 1) := WI_u h3 (by decide) (Or.inl (by decide)) (Or.inl (by decide))
            have z4 : up (wM3 M (t * 16 + i) s) 19 (M 14 (t * 16 + i)) 1 17 4 = M 17 4 + 1 := by rw [up_nc (by decide), hz3]
            have h5 := wO_WI f (up (wM3 M (t * 16 + i) s) 19 (M 14 (t * 16 + i)) 1) (M 14 (t * 16 + i)) 0 (20 + M 17 4) h4 (by omega) (by rw [z4]; omega)
            rw [z4] at h5
            have h6 := wO_fr f (up (wM3 M (t * 16 + i) s) 19 (M 14 (t * 16 + i)) 1) (M 14 (t * 16 + i)) 0 (20 + M 17 4) h4 (by omega) (by rw [z4]; omega) c y hc
            rw [up_nc (by omega), h3f] at h6
            split
            · exact h6
            · rw [wO_fr f _ t (i + 1) s h5.1 h1 (by have := h5.2; omega) c y hc]
              exact h6
          · split
            · have h4 : WI (up (wM3 M (t * 16 + i) s) s 6 (M 17 4)) := WI_u h3 (by omega) (Or.inr (by decide)) (Or.inr (by decide))
              have z4 : up (wM3 M (t * 16 + i) s) s 6 (M 17 4) 17 4 = M 17 4 + 1 := by rw [up_nk (by decide), hz3]
              rw [wO_fr f _ t (i + 1) (M s 4) h4 (by omega) (by rw [z4]; omega) c y hc]
              rw [← h3f]
              unfold up
              rw [if_neg (by omega)]
            · split
              · rw [wO_fr f _ t (i + 1) (20 + M 17 4) h3 (by omega) (by rw [hz3]; omega) c y hc]
                exact h3f
              · rw [wO_fr f _ t (i + 1) s h3 h1 (by rw [hz3]; omega) c y hc]
                exact h3f
theorem CK_nil {E : Mem} {t : Int} {j : Nat} (h : tS E t j = []) : CK E t j = -1 := by unfold CK; rw [h, ckO_nil]
/-- the class's check against the trace: its answer, the place, what it leaves -/
theorem wQ_ck {M : Mem} (hP : WP M) (hX : TXT M) (t : Int) : (wQ M t).1 = (if ckQ M t = -1 then 1 else 0) ∧ (wQ M t).2 17 5 = ckQ M t ∧ (∀ c y : Int, frC c y → ¬ (c = 20 ∧ y = 5) → (wQ M t).2 c y = M c y) ∧ (ckQ M t = -1 → ∃ m : Nat, m ≤ 60 ∧ PS M t m (wQ M t).2 ∧ tS M t m = [] ∧ ∀ i : Nat, i < m → tS M t i ≠ []) := by
  unfold wQ
  by_cases hg : gd (M 13) (M 12) 0 = 0
  · rw [if_pos hg]
    have hc : ckQ M t = 0 := by unfold ckQ; rw [if_pos hg]
    rw [hc]
    refine ⟨rfl, (show up M 17 5 0 17 5 = 0 from up_eq _ _ _ _), fun c y h _ => ?_, fun h => by omega⟩
    show up M 17 5 0 c y = _
    exact up_nc (by omega)
  · rw [if_neg hg]
    have hc : ckQ M t = CK M t 0 := by unfold ckQ; rw [if_neg hg, CK_0]
    have hg1 : gd (M 13) (M 12) 0 = 1 := by
      have := gdF_01 (M 13) (M 12 0).toNat (16 * 0) 1
      unfold gd at hg ⊢
      omega
    have hI := WI_Q (t := t) hP
    have hIu : WI (up (wQ0 M t) 19 0 1) := WI_u hI (by decide) (Or.inl (by decide)) (Or.inl (by decide))
    have z1 : up (wQ0 M t) 19 0 1 17 4 = 1 := by rw [up_nc (by decide), wQ0_z]
    have h20 : wQ0 M t 20 5 = t := by unfold wQ0; rw [up_nc (by decide), up_nc (by decide), up_eq]
    have h204 : wQ0 M t 20 4 = 20 := by rw [wQ0_n (by decide) (Or.inr (by decide)) (Or.inl (by decide))]; exact hP.2.2.2
    have hP0 : PS M t 0 (up (wQ0 M t) 19 0 1) := by
      refine ⟨by rw [z1]; rfl, fun c x h => by rw [up_nc (by omega)]; exact wQ0_n (by omega) (Or.inl (by omega)) (Or.inl (by omega)), fun k h => absurd h (Nat.not_lt_zero k), ⟨by rw [up_nc (by decide)]; exact h20, by rw [up_nc (by decide)]; exact h204⟩, fun h => absurd rfl h, fun f h1 h2 => ?_⟩
      rw [up_nk (by omega)]
      have hf : f = 1 ∨ f = 2 ∨ f = 3 := by omega
      rcases hf with rfl | rfl | rfl <;> rfl
    have hg2 := hg1
    unfold gd at hg2
    obtain ⟨q, hq⟩ := gdF_p (Int.le_refl 1) hg2
    have hfr := wO_fr 61 (up (wQ0 M t) 19 0 1) 0 0 20 hIu (by decide) (by rw [z1]; decide)
    have hfr2 : ∀ c y : Int, frC c y → ¬ (c = 20 ∧ y = 5) → (wO 61 (up (wQ0 M t) 19 0 1) 0 0 20).2 c y = M c y := fun c y h h' => by
      rw [hfr c y h, up_nc (by omega)]
      exact wQ0_n (by omega) (by omega) (by omega)
    have h1 := wO_tr hX 61 (up (wQ0 M t) 19 0 1) 0 0 0 [] (t, -1, 0) [] hP0 (by decide) (by decide) (by decide) (by omega) rfl rfl (by decide) (fun a h => absurd h List.not_mem_nil) (Or.inl ⟨rfl, rfl⟩) (by rw [show M 12 0 - 0 = M 12 0 by omega]; exact hg2)
    have e20 : (20 : Int) + (topF (tS M t 0)).2.2 = 20 := rfl
    rw [e20] at h1
    rcases h1 with ⟨w1, w2, w3⟩ | ⟨w1, w2, j, w3, w4, w5, w6, w7, w8, w9⟩
    · refine ⟨by rw [w1, if_neg (by omega)], by rw [w2, hc], hfr2, fun h => by omega⟩
    · have hm1 : ckQ M t = -1 := by rw [hc, ← w8, CK_nil w6]
      refine ⟨by rw [w1, if_pos hm1], ?_, hfr2, fun _ => ⟨j, w4, w5, w6, fun i hi => w9 i (Nat.zero_le _) hi⟩⟩
      rw [w2, hm1, up_nc (by decide)]
      unfold wQ0
      rw [up_eq]
