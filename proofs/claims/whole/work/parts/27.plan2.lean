theorem kO_eq {E N : Mem} (h : ∀ c y : Int, c < 17 → N c y = E c y) (t f : Int) : kO N t f = kO E t f := by
  unfold kO
  simp only [hasF, h 1 _ (by decide), h 2 _ (by decide), h 3 _ (by decide)]
theorem tO_eq {E N : Mem} (h : ∀ c y : Int, c < 17 → N c y = E c y) (t f : Int) : tO N t f = tO E t f := by
  unfold tO
  simp only [hasF, h 1 _ (by decide), h 2 _ (by decide), h 4 _ (by decide)]
theorem rO_eq {E N : Mem} (h : ∀ c y : Int, c < 17 → N c y = E c y) (t f : Int) : rO N t f = rO E t f := by
  unfold rO
  simp only [hasF, h 1 _ (by decide), h 2 _ (by decide), h 5 _ (by decide)]
theorem wR_iff {E M : Mem} {t : Int} {j : Nat} {x : Fr} {R : List Fr} (hP : PS E t j M) (h : tS E t j = x :: R) (hk : tokP (E 13 (tI E t j)) (E 14 (tI E t j)) (E 15 (tI E t j))) : wR M (tI E t j) (20 + x.2.2) = 0 ↔ ¬ rgtP E x.1 (tI E t j) (tU E t j) := by
  obtain ⟨p1, p2, p3, p4, p5, p6⟩ := hP
  have h5 := (PS_in ⟨p1, p2, p3, p4, p5, p6⟩ h).1
  generalize hi : tI E t j = i at *
  have z0 : 0 ≤ M 17 4 := by omega
  have eN : ∀ c y : Int, c < 17 → tkS M i (20 + x.2.2) c y = E c y := fun c y hc => by rw [tkS_n (by omega) (Or.inl (by omega)), p2 c y hc]
  have n13 : tkS M i (20 + x.2.2) 13 = E 13 := funext (fun y => eN 13 y (by decide))
  have n12 : tkS M i (20 + x.2.2) 12 = E 12 := funext (fun y => eN 12 y (by decide))
  have n19 : ∀ y, tkS M i (20 + x.2.2) 19 y = M 19 y := fun y => tkS_n (by omega) (Or.inl (by decide))
  unfold wR rtR fnR
  rw [h5, tkS_1 z0, tkS_2 z0, tkS_3 z0, p2 13 _ (by decide), p2 14 _ (by decide), p2 15 _ (by decide), n13, n12, n19, kO_eq eN, eN 1 4 (by decide)]
  by_cases h0 : E 13 i = 0 ∨ E 13 i = 1
  · rw [if_pos h0]
    constructor
    · intro q hr
      have r1 := hr.1
      have r2 := hr.2.1
      split at q <;> omega
    · intro q
      split
      · rename_i z
        exfalso
        apply q
        exact ⟨fun _ => by omega, fun _ => by omega, fun _ => by omega, fun _ => by omega⟩
      · rfl
  · rw [if_neg h0]
    by_cases h3 : E 13 i = 3
    · rw [if_pos h3]
      constructor
      · intro q hr
        have r3 := hr.2.2.1 h3
        split at q <;> omega
      · intro q
        split
        · rename_i z
          exfalso
          apply q
          exact ⟨fun _ => by omega, fun _ => by omega, fun _ => z, fun _ => by omega⟩
        · rfl
    · rw [if_neg h3]
      by_cases h5 : E 13 i = 5
      · rw [if_pos h5]
        have hu' := p6 (E 14 i) (by omega) (by omega)
        constructor
        · intro q hr
          have r5 := hr.2.2.2 h5
          split at q <;> omega
        · intro q
          split
          · rename_i z
            exfalso
            apply q
            have h01 := gdF_01 (E 13) (E 12 (E 14 i)).toNat (16 * E 14 i) 1
            have hg : gd (E 13) (E 12) (E 14 i) = 1 := by
              have := z.1
              unfold gd at this ⊢
              omega
            exact ⟨fun _ => by omega, fun _ => by omega, fun _ => by omega, fun _ => ⟨hg, by rw [← hu']; exact z.2⟩⟩
          · rfl
      · rw [if_neg h5]
        constructor
        · intro q; omega
        · intro q
          exfalso
          apply q
          exact ⟨fun _ => by omega, fun _ => by omega, fun _ => by omega, fun _ => by omega⟩
/-- the cells behind one more step: N is the written-out step (wM3), but for the close of the SET that ends and for the busy fragments -/
theorem PS_next {E M N : Mem} {t : Int} {j : Nat} {x : Fr} {R : List Fr} (hP : PS E t j M) (h : tS E t j = x :: R) (hk : tokP (E 13 (tI E t j)) (E 14 (tI E t j)) (E 15 (tI E t j)))
    (hN : ∀ c y : Int, c ≠ 19 → ¬ (c = 20 + x.2.2 ∧ y = 6 ∧ E 13 (tI E t j) = 6) → N c y = wM3 M (tI E t j) (20 + x.2.2) c y)
    (hc : E 13 (tI E t j) = 6 → N (20 + x.2.2) 6 = (j : Int) + 1) (hb : ∀ f : Int, 1 ≤ f → f ≤ 3 → N 19 f = tU E t (j + 1) f) : PS E t (j + 1) N := by
  have hop := tS_op h
  have h5 := (PS_in hP h).1
  obtain ⟨p1, p2, p3, p4, p5, p6⟩ := hP
  have z0 : 0 ≤ M 17 4 := by omega
  have eN : ∀ c y : Int, c < 17 → tkS M (tI E t j) (20 + x.2.2) c y = E c y := fun c y hc => by rw [tkS_n (by omega) (Or.inl (by omega)), p2 c y hc]
  have e2 : ∀ c y : Int, c < 17 → wM2 M (tI E t j) (20 + x.2.2) c y = E c y := fun c y hc => by rw [wM2_n (by omega) (Or.inl (by omega)), p2 c y hc]
  have nE : 20 + M 17 4 = 20 + ((j : Int) + 1) := by omega
  have hold : ∀ c y : Int, 20 ≤ c → c ≤ 20 + (j : Int) → y ≠ 6 → N c y = M c y := fun c y h1 h2 h3 => by rw [hN c y (by omega) (by omega), wM3_n (by omega) (Or.inl (by omega))]
  have hclo : ∀ k : Int, 0 ≤ k → k ≤ j → N (20 + k) 6 = if E 13 (tI E t j) = 6 ∧ x.2.2 = k then (j : Int) + 1 else M (20 + k) 6 := by
    intro k h1 h2
    by_cases q : E 13 (tI E t j) = 6 ∧ x.2.2 = k
    · rw [if_pos q, ← q.2]; exact hc q.1
    · rw [if_neg q, hN _ _ (by omega) (by omega), wM3_n (by omega) (Or.inl (by omega))]
  have htop : topF (tS E t j) = x := by rw [h]; rfl
  refine ⟨by rw [hN 17 4 (by decide) (by omega), wM3_z z0]; omega, fun c y hcy => by rw [hN c y (by omega) (by omega), wM3_n (by omega) (Or.inl (by omega)), p2 c y hcy], fun k hkj => ?_, ⟨by rw [hold 20 5 (by decide) (by omega) (by decide)]; exact p4.1, by rw [hold 20 4 (by decide) (by omega) (by decide)]; exact p4.2⟩, fun q => ?_, hb⟩
  · by_cases e : k < j
    · obtain ⟨s1, s2, s3, s4, s5, s6, s7⟩ := p3 k e
      refine ⟨by rw [hold _ _ (by omega) (by omega) (by decide)]; exact s1, by rw [hold _ _ (by omega) (by omega) (by decide)]; exact s2, by rw [hold _ _ (by omega) (by omega) (by decide)]; exact s3, by rw [hold _ _ (by omega) (by omega) (by decide)]; exact s4, by rw [hold _ _ (by omega) (by omega) (by decide)]; exact s5, ?_, fun q => ⟨by rw [hold _ _ (by omega) (by omega) (by decide)]; exact (s7 q).1, by rw [hold _ _ (by omega) (by omega) (by decide)]; exact (s7 q).2⟩⟩
      rw [hclo _ (by omega) (by omega), s6]
      show _ = if E 13 (tI E t j) = 6 ∧ (topF (tS E t j)).2.2 = _ then _ else _
      rw [htop]
    · have ek : k = j := by omega
      subst ek
      have c1 : ∀ y : Int, N (20 + ((k : Int) + 1)) y = wM3 M (tI E t k) (20 + x.2.2) (20 + M 17 4) y := fun y => by rw [hN _ _ (by omega) (by omega), nE]
      have e3 : ∀ y : Int, y ≠ 5 → y ≠ 7 → y ≠ 8 → N (20 + ((k : Int) + 1)) y = tkS M (tI E t k) (20 + x.2.2) (20 + M 17 4) y := fun y g5 g7 g8 => by rw [c1, wM3_s g5 g7 g8]
      have f1 : wM2 M (tI E t k) (20 + x.2.2) (20 + M 17 4) 1 = E 13 (tI E t k) := by rw [wM2_s (by decide) (by decide), tkS_1 z0, p2 13 _ (by decide)]
      have f2 : wM2 M (tI E t k) (20 + x.2.2) (20 + M 17 4) 2 = E 14 (tI E t k) := by rw [wM2_s (by decide) (by decide), tkS_2 z0, p2 14 _ (by decide)]
      have f3 : wM2 M (tI E t k) (20 + x.2.2) (20 + M 17 4) 3 = E 15 (tI E t k) := by rw [wM2_s (by decide) (by decide), tkS_3 z0, p2 15 _ (by decide)]
      refine ⟨by rw [e3 _ (by decide) (by decide) (by decide), tkS_1 z0, p2 13 _ (by decide)], by rw [e3 _ (by decide) (by decide) (by decide), tkS_2 z0, p2 14 _ (by decide)], by rw [e3 _ (by decide) (by decide) (by decide), tkS_3 z0, p2 15 _ (by decide)], by rw [e3 _ (by decide) (by decide) (by decide), tkS_4 z0, htop], ?_, ?_, fun q => ?_⟩
      · rw [c1]
        unfold wM3
        rw [up_eq]
        unfold tyB tyP
        rw [f1, f2, f3, h5, tO_eq e2, htop]
      · rw [e3 _ (by decide) (by decide) (by decide), tkS_6 z0, p1]
        show _ = if E 13 (tI E t k) = 6 ∧ (topF (tS E t k)).2.2 = _ then _ else _
        rw [if_neg (by rw [htop]; omega), clo_new _ _ (by omega)]
      · have g : wM3 M (tI E t k) (20 + x.2.2) (20 + M 17 4) 7 = kO E x.1 (E 15 (tI E t k)) ∧ wM3 M (tI E t k) (20 + x.2.2) (20 + M 17 4) 8 = rO E x.1 (E 15 (tI E t k)) := by
          unfold wM3 wM2
          rw [up_nk (by decide), up_nk (by decide)]
          unfold rtM
          rw [tkS_1 z0, p2 13 _ (by decide), if_pos q]
          unfold fnF
          rw [up_nk (by decide), up_eq, up_eq, tkS_3 z0, p2 15 _ (by decide), h5, kO_eq eN, rO_eq eN]
          exact ⟨rfl, rfl⟩
        rw [c1, c1, htop]
        exact g
  · have e0 := hclo 0 (by decide) (by omega)
    have : clo E t (j + 1) 0 = if E 13 (tI E t j) = 6 ∧ x.2.2 = 0 then (j : Int) + 1 else clo E t j 0 := by
      show (if E 13 (tI E t j) = 6 ∧ (topF (tS E t j)).2.2 = 0 then _ else _) = _
      rw [htop]
    rw [this] at q ⊢
    show N (20 + 0) 6 = _
    rw [e0]
    split
    · rfl
    · rename_i z
      rw [if_neg z] at q
      exact p5 q
