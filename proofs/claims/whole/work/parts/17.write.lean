-- ===== writing the query out: what it does to the cells
def wM2 (M : Mem) (k s : Int) : Mem := rtM (tkS M k s) (20 + M 17 4) (M s 5)
def wM3 (M : Mem) (k s : Int) : Mem := up (wM2 M k s) (20 + M 17 4) 5 (tyB (wM2 M k s) (20 + M 17 4) (M s 5))
noncomputable def wR (M : Mem) (k s : Int) : Int := rtR (tkS M k s) (20 + M 17 4) (M s 5)
/-- the text t from its token i on, inside of step cell s; f bounds the depth -/
noncomputable def wO : Nat → Mem → Int → Int → Int → Int × Mem
  | 0, M, _, _, _ => (0, M)
  | f + 1, M, t, i, s =>
    if M 12 t ≤ i then (1, up M 19 t 0)
    else if 61 ≤ M 17 4 then (0, up M 17 5 (t * 16 + i))
    else if wR M (t * 16 + i) s = 0 then (0, up (wM2 M (t * 16 + i) s) 17 5 (t * 16 + i))
    else if M 13 (t * 16 + i) = 5 then
      (if (wO f (up (wM3 M (t * 16 + i) s) 19 (M 14 (t * 16 + i)) 1) (M 14 (t * 16 + i)) 0 (20 + M 17 4)).1 = 0 then (0, (wO f (up (wM3 M (t * 16 + i) s) 19 (M 14 (t * 16 + i)) 1) (M 14 (t * 16 + i)) 0 (20 + M 17 4)).2)
      else wO f (wO f (up (wM3 M (t * 16 + i) s) 19 (M 14 (t * 16 + i)) 1) (M 14 (t * 16 + i)) 0 (20 + M 17 4)).2 t (i + 1) s)
    else if M 13 (t * 16 + i) = 6 then wO f (up (wM3 M (t * 16 + i) s) s 6 (M 17 4)) t (i + 1) (M s 4)
    else if opnP (M 13 (t * 16 + i)) then wO f (wM3 M (t * 16 + i) s) t (i + 1) (20 + M 17 4)
    else wO f (wM3 M (t * 16 + i) s) t (i + 1) s
theorem rtM_n {M : Mem} {s e c j : Int} (h : c ≠ s ∨ (j ≠ 7 ∧ j ≠ 8)) : rtM M s e c j = M c j := by
  unfold rtM
  split
  · unfold fnF
    rcases h with h | h
    · rw [up_nc h, up_nc h]
    · rw [up_nk h.2, up_nk h.1]
  · rfl
theorem tkS_n {M : Mem} {k s c j : Int} (h1 : c ≠ 20 + M 17 4) (h2 : c ≠ 17 ∨ j ≠ 4) : tkS M k s c j = M c j := by
  unfold tkS
  have e : ∀ (N : Mem) (v : Int), up N 17 4 v c j = N c j := fun N v => h2.elim (fun h => up_nc h) (fun h => up_nk h)
  rw [e, up_nc h1, up_nc h1, up_nc h1, up_nc h1, up_nc h1]
theorem tkS_z {M : Mem} {k s : Int} : tkS M k s 17 4 = M 17 4 + 1 := by unfold tkS; rw [up_eq]
theorem tkS_o {M : Mem} {k s j : Int} (h : 0 ≤ M 17 4) (h1 : j ≠ 1) (h2 : j ≠ 2) (h3 : j ≠ 3) (h4 : j ≠ 4) (h6 : j ≠ 6) : tkS M k s (20 + M 17 4) j = M (20 + M 17 4) j := by
  unfold tkS
  rw [up_nc (by omega), up_nk h6, up_nk h4, up_nk h3, up_nk h2, up_nk h1]
theorem tkS_1 {M : Mem} {k s : Int} (h : 0 ≤ M 17 4) : tkS M k s (20 + M 17 4) 1 = M 13 k := by
  unfold tkS
  rw [up_nc (by omega), up_nk (by decide), up_nk (by decide), up_nk (by decide), up_nk (by decide), up_eq]
theorem tkS_2 {M : Mem} {k s : Int} (h : 0 ≤ M 17 4) : tkS M k s (20 + M 17 4) 2 = M 14 k := by
  unfold tkS
  rw [up_nc (by omega), up_nk (by decide), up_nk (by decide), up_nk (by decide), up_eq]
theorem tkS_3 {M : Mem} {k s : Int} (h : 0 ≤ M 17 4) : tkS M k s (20 + M 17 4) 3 = M 15 k := by
  unfold tkS
  rw [up_nc (by omega), up_nk (by decide), up_nk (by decide), up_eq]
theorem tkS_4 {M : Mem} {k s : Int} (h : 0 ≤ M 17 4) : tkS M k s (20 + M 17 4) 4 = s := by
  unfold tkS
  rw [up_nc (by omega), up_nk (by decide), up_eq]
theorem tkS_6 {M : Mem} {k s : Int} (h : 0 ≤ M 17 4) : tkS M k s (20 + M 17 4) 6 = M 17 4 := by
  unfold tkS
  rw [up_nc (by omega), up_eq]
theorem tkS_5 {M : Mem} {k s c : Int} (h : 0 ≤ M 17 4) (hc : c ≠ 17) : tkS M k s c 5 = M c 5 := by
  by_cases e : c = 20 + M 17 4
  · rw [e, tkS_o h (by decide) (by decide) (by decide) (by decide) (by decide)]
  · exact tkS_n e (Or.inl hc)
theorem wM3_n {M : Mem} {k s c j : Int} (h1 : c ≠ 20 + M 17 4) (h2 : c ≠ 17 ∨ j ≠ 4) : wM3 M k s c j = M c j := by
  unfold wM3 wM2
  rw [up_nc h1, rtM_n (Or.inl h1), tkS_n h1 h2]
theorem wM2_n {M : Mem} {k s c j : Int} (h1 : c ≠ 20 + M 17 4) (h2 : c ≠ 17 ∨ j ≠ 4) : wM2 M k s c j = M c j := by
  unfold wM2
  rw [rtM_n (Or.inl h1), tkS_n h1 h2]
theorem wM2_z {M : Mem} {k s : Int} (h : 0 ≤ M 17 4) : wM2 M k s 17 4 = M 17 4 + 1 := by
  unfold wM2
  rw [rtM_n (Or.inl (by omega)), tkS_z]
theorem wM3_z {M : Mem} {k s : Int} (h : 0 ≤ M 17 4) : wM3 M k s 17 4 = M 17 4 + 1 := by
  unfold wM3
  rw [up_nc (by omega), wM2_z h]
theorem wM2_s {M : Mem} {k s j : Int} (h7 : j ≠ 7) (h8 : j ≠ 8) : wM2 M k s (20 + M 17 4) j = tkS M k s (20 + M 17 4) j := by
  unfold wM2
  rw [rtM_n (Or.inr ⟨h7, h8⟩)]
theorem wM3_s {M : Mem} {k s j : Int} (h5 : j ≠ 5) (h7 : j ≠ 7) (h8 : j ≠ 8) : wM3 M k s (20 + M 17 4) j = tkS M k s (20 + M 17 4) j := by
  unfold wM3
  rw [up_nk h5, wM2_s h7 h8]
/-- what holds of the cells while the query is written out -/
def WI (M : Mem) : Prop := SC M ∧ TX M ∧ (∀ k : Int, M 13 k = 5 → 0 ≤ M 14 k ∧ M 14 k ≤ 3) ∧ (1 ≤ M 17 4 ∧ M 17 4 ≤ 61) ∧ ∀ c : Int, 20 ≤ c → c < 20 + M 17 4 → 20 ≤ M c 4 ∧ M c 4 < 20 + M 17 4
theorem WI_eq {M M' : Mem} (h : WI M) (h1 : ∀ c j : Int, c < 16 → M' c j = M c j) (hz : M' 17 4 = M 17 4) (ho : ∀ c : Int, 20 ≤ c → c < 81 → M' c 4 = M c 4) : WI M' := by
  obtain ⟨a1, a2, a3, a4, a5⟩ := h
  refine ⟨?_, fun t => ?_, fun k => ?_, by rw [hz]; exact a4, fun c b1 b2 => ?_⟩
  · unfold SC
    simp only [h1 1 _ (by decide), h1 2 _ (by decide)]
    exact a1
  · rw [h1 12 _ (by decide)]; exact a2 t
  · rw [h1 13 _ (by decide), h1 14 _ (by decide)]; exact a3 k
  · rw [hz] at b2 ⊢
    rw [ho c b1 (by omega)]
    exact a5 c b1 b2
theorem WI_3 {M : Mem} {k s : Int} (h : WI M) (hz : M 17 4 ≤ 60) (hs : 20 ≤ s ∧ s < 20 + M 17 4) : WI (wM3 M k s) := by
  obtain ⟨a1, a2, a3, a4, a5⟩ := h
  have e : ∀ c j : Int, c < 16 → wM3 M k s c j = M c j := fun c j hc => wM3_n (by omega) (Or.inl (by omega))
  refine ⟨?_, fun t => ?_, fun k => ?_, by rw [wM3_z (by omega)]; omega, fun c b1 b2 => ?_⟩
  · unfold SC
    simp only [e 1 _ (by decide), e 2 _ (by decide)]
    exact a1
  · rw [e 12 _ (by decide)]; exact a2 t
  · rw [e 13 _ (by decide), e 14 _ (by decide)]; exact a3 k
  · rw [wM3_z (by omega)] at b2 ⊢
    by_cases hc : c = 20 + M 17 4
    · rw [hc, wM3_s (by decide) (by decide) (by decide), tkS_4 (by omega)]
      omega
    · rw [wM3_n hc (Or.inl (by omega))]
      have := a5 c b1 (by omega)
      omega
theorem WI_u {M : Mem} {c j v : Int} (h : WI M) (hc : 16 ≤ c) (h1 : c ≠ 17 ∨ j ≠ 4) (h2 : c < 20 ∨ j ≠ 4) : WI (up M c j v) := by
  refine WI_eq h (fun c' j' hc' => up_nc (by omega)) ?_ (fun c' b1 b2 => ?_)
  · rcases h1 with h1 | h1
    · exact up_nc (Ne.symm h1)
    · exact up_nk (Ne.symm h1)
  · rcases h2 with h2 | h2
    · exact up_nc (by omega)
    · exact up_nk (Ne.symm h2)
/-- the size only grows, and the rest stays as it must -/
theorem wO_WI : ∀ (f : Nat) (M : Mem) (t i s : Int), WI M → 20 ≤ s → s < 20 + M 17 4 → WI (wO f M t i s).2 ∧ M 17 4 ≤ (wO f M t i s).2 17 4
  | 0, M, t, i, s, h, _, _ => ⟨h, Int.le_refl _⟩
  | f + 1, M, t, i, s, h, h1, h2 => by
    unfold wO
    have hz := h.2.2.2.1
    have hz3 := wM3_z (M := M) (k := t * 16 + i) (s := s) (by omega)
    split
    · exact ⟨WI_u h (by decide) (Or.inl (by decide)) (Or.inl (by decide)), by show _ ≤ up M 19 t 0 17 4; rw [up_nc (by decide)]; exact Int.le_refl _⟩
    · split
      · exact ⟨WI_u h (by decide) (Or.inr (by decide)) (Or.inl (by decide)), by show _ ≤ up M 17 5 (t * 16 + i) 17 4; rw [up_nk (by decide)]; exact Int.le_refl _⟩
      · split
        · have hw : WI (wM2 M (t * 16 + i) s) := WI_eq (WI_3 (k := t * 16 + i) h (by omega) ⟨h1, h2⟩) (fun c j hc => by rw [wM2_n (by omega) (Or.inl (by omega)), wM3_n (by omega) (Or.inl (by omega))]) (by rw [wM2_z (by omega), hz3]) (fun c b1 b2 => by unfold wM3; rw [up_nk (by decide)])
          exact ⟨WI_u hw (by decide) (Or.inr (by decide)) (Or.inl (by decide)), by show _ ≤ up (wM2 M (t * 16 + i) s) 17 5 (t * 16 + i) 17 4; rw [up_nk (by decide), wM2_z (by omega)]; omega⟩
        · have h3 := WI_3 (k := t * 16 + i) h (by omega) ⟨h1, h2⟩
          have hs := h.2.2.2.2 s h1 h2
          split
          · have h4 : WI (up (wM3 M (t * 16 + i) s) 19 (M 14 (t * 16 + i)) 1) := WI_u h3 (by decide) (Or.inl (by decide)) (Or.inl (by decide))
            have z4 : up (wM3 M (t * 16 + i) s) 19 (M 14 (t * 16 + i)) 1 17 4 = M 17 4 + 1 := by rw [up_nc (by decide), hz3]
            have h5 := wO_WI f (up (wM3 M (t * 16 + i) s) 19 (M 14 (t * 16 + i)) 1) (M 14 (t * 16 + i)) 0 (20 + M 17 4) h4 (by omega) (by rw [z4]; omega)
            rw [z4] at h5
            split
            · exact ⟨h5.1, by have := h5.2; show _ ≤ (wO f _ _ _ _).2 17 4; omega⟩
            · have h6 := wO_WI f _ t (i + 1) s h5.1 h1 (by have := h5.2; omega)
              exact ⟨h6.1, by have := h5.2; have := h6.2; omega⟩
          · split
            · have h4 : WI (up (wM3 M (t * 16 + i) s) s 6 (M 17 4)) := WI_u h3 (by omega) (Or.inr (by decide)) (Or.inr (by decide))
              have z4 : up (wM3 M (t * 16 + i) s) s 6 (M 17 4) 17 4 = M 17 4 + 1 := by rw [up_nk (by decide), hz3]
              have h5 := wO_WI f _ t (i + 1) (M s 4) h4 (by omega) (by rw [z4]; omega)
              rw [z4] at h5
              exact ⟨h5.1, by have := h5.2; omega⟩
            · split
              · have h5 := wO_WI f _ t (i + 1) (20 + M 17 4) h3 (by omega) (by rw [hz3]; omega)
                rw [hz3] at h5
                exact ⟨h5.1, by have := h5.2; omega⟩
              · have h5 := wO_WI f _ t (i + 1) s h3 h1 (by rw [hz3]; omega)
                rw [hz3] at h5
                exact ⟨h5.1, by have := h5.2; omega⟩
