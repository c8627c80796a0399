-- ===== class and reference side by side
/-- codes and places: what the last ask left, in both -/
def AR2 (M : Mem) : Prop := ∃ (cs : List Int) (L : List (List Int)), (M 81 4 = (cs.length : Int) ∧ arL M 87 0 cs ∧ cs.length ≤ 120) ∧ (M 83 4 = (L.length : Int) ∧ L.length ≤ 60 ∧ ∀ k : Nat, k < L.length → M 85 k = ((L.getD k []).length : Int) ∧ arL M 86 ((k : Int) * 26) (L.getD k [])) ∧ (M 88 31 = (cs.length : Int) ∧ arL M 114 0 cs) ∧ M 88 33 = (L.length : Int) ∧ PLC M L
/-- a USE names a fragment -/
def FIV (M : Mem) : Prop := ∀ k : Int, M 13 k = 5 → 0 ≤ M 14 k ∧ M 14 k ≤ 3
def R1 (M : Mem) : Prop := SCH M ∧ (TXT M ∧ FIV M) ∧ ROW M ∧ LKT M ∧ RC M ∧ M 20 4 = 20 ∧ M 20 10 < 0
def R2 (M : Mem) : Prop := REFT M M ∧ ∀ r f : Int, M 6 4 < r → r ≤ 12 → 0 ≤ f → f ≤ 3 → M 92 (4 * r + f) = 0
def R3 (M : Mem) : Prop := M 88 12 = M 17 5 ∧ AR2 M
def REL (M : Mem) : Prop := R1 M ∧ R2 M ∧ R3 M
theorem kO_c {M M' : Mem} (h : ∀ c y : Int, 1 ≤ c → c ≤ 5 → M' c y = M c y) (t f : Int) : kO M' t f = kO M t f := by
  unfold kO
  simp only [hasF, h 1 4 (by decide) (by decide), h 2 t (by decide) (by decide), h 3 _ (by decide) (by decide)]
theorem tO_c {M M' : Mem} (h : ∀ c y : Int, 1 ≤ c → c ≤ 5 → M' c y = M c y) (t f : Int) : tO M' t f = tO M t f := by
  unfold tO
  simp only [hasF, h 1 4 (by decide) (by decide), h 2 t (by decide) (by decide), h 4 _ (by decide) (by decide)]
theorem SCH_c {M M' : Mem} (h : ∀ c y : Int, 1 ≤ c → c ≤ 5 → M' c y = M c y) (q : SCH M) : SCH M' := by
  obtain ⟨⟨a1, a2, a3⟩, b, c⟩ := q
  refine ⟨⟨by rw [h 1 4 (by decide) (by decide)]; exact a1, by rw [h 1 4 (by decide) (by decide)]; exact a2, fun t => by rw [h 2 t (by decide) (by decide)]; exact a3 t⟩, fun t f w => ?_, fun t w => ?_⟩
  · rw [h 3 _ (by decide) (by decide), h 4 _ (by decide) (by decide), h 5 _ (by decide) (by decide)]
    exact b t f (by simpa only [hasF, h 1 4 (by decide) (by decide), h 2 t (by decide) (by decide)] using w)
  · rw [h 2 t (by decide) (by decide)]
    exact c t (by rw [h 1 4 (by decide) (by decide)] at w; exact w)
theorem TXT_c {M M' : Mem} (h : ∀ c y : Int, 12 ≤ c → c ≤ 15 → M' c y = M c y) (q : TXT M ∧ FIV M) : TXT M' ∧ FIV M' := by
  obtain ⟨⟨a, b⟩, c⟩ := q
  refine ⟨⟨fun t => by rw [h 12 t (by decide) (by decide)]; exact a t, fun i i1 i2 => ?_⟩, fun k hk => ?_⟩
  · rw [h 13 i (by decide) (by decide), h 14 i (by decide) (by decide), h 15 i (by decide) (by decide)]
    exact b i i1 i2
  · rw [h 14 k (by decide) (by decide)]
    exact c k (by rw [h 13 k (by decide) (by decide)] at hk; exact hk)
theorem ROW_c {M M' : Mem} (h : ∀ c y : Int, 7 ≤ c → c ≤ 10 → M' c y = M c y) (q : ROW M) : ROW M' := by
  obtain ⟨a, b, c, d⟩ := q
  refine ⟨fun i => by rw [h 8 i (by decide) (by decide)]; exact a i, fun i => by rw [h 9 i (by decide) (by decide)]; exact b i, fun i j h1 h2 h3 h4 => ?_, fun i => by rw [h 7 i (by decide) (by decide)]; exact d i⟩
  rw [h 10 _ (by decide) (by decide)]
  exact c i j h1 h2 h3 (by rw [h 9 i (by decide) (by decide)] at h4; exact h4)
theorem LKT_c {M M' : Mem} (h : ∀ c y : Int, 1 ≤ c → c ≤ 10 → M' c y = M c y) (q : LKT M) : LKT M' := by
  intro r f a h1 h2 h3 h4 h5 h6
  rw [h 6 4 (by decide) (by decide)] at h2 ⊢
  rw [h 9 _ (by decide) (by decide)] at h6
  rw [tO_c (fun c y c1 c2 => h c y c1 (by omega)), h 7 _ (by decide) (by decide), h 10 _ (by decide) (by decide), h 7 _ (by decide) (by decide)]
  exact q r f a h1 h2 h3 h4 h5 h6
theorem R1_c {M M' : Mem} (h : ∀ c y : Int, (1 ≤ c ∧ c ≤ 15) ∨ (c = 20 ∧ (y = 4 ∨ y = 10)) → M' c y = M c y) (q : R1 M) : R1 M' := by
  obtain ⟨a, b, c, d, e, f, g⟩ := q
  exact ⟨SCH_c (fun c y c1 c2 => h c y (by omega)) a, TXT_c (fun c y c1 c2 => h c y (by omega)) b, ROW_c (fun c y c1 c2 => h c y (by omega)) c, LKT_c (fun c y c1 c2 => h c y (by omega)) d, by unfold RC; rw [h 6 4 (by omega)]; exact e, by rw [h 20 4 (by omega)]; exact f, by rw [h 20 10 (by omega)]; exact g⟩
theorem MT_c {M M' : Mem} (h : ∀ c y : Int, (1 ≤ c ∧ c ≤ 5) ∨ (12 ≤ c ∧ c ≤ 15) ∨ (89 ≤ c ∧ c ≤ 90) ∨ (95 ≤ c ∧ c ≤ 98) ∨ (c = 88 ∧ y = 0) → M' c y = M c y) (q : MT M M) : MT M' M' := by
  obtain ⟨m1, m2, m3, m4, m5, m6, m7⟩ := q
  refine ⟨fun i => by rw [h 95 i (by omega), h 12 i (by omega)]; exact m1 i, fun i => by rw [h 96 i (by omega), h 13 i (by omega)]; exact m2 i, fun i => by rw [h 97 i (by omega), h 14 i (by omega)]; exact m3 i, fun i => by rw [h 98 i (by omega), h 15 i (by omega)]; exact m4 i, by rw [h 88 0 (by omega), h 1 4 (by omega)]; exact m5, fun t => by rw [h 89 t (by omega), h 2 t (by omega)]; exact m6 t, fun t f h1 h2 h3 h4 => ?_⟩
  rw [h 90 _ (by omega), h 90 _ (by omega), h 90 _ (by omega), h 3 _ (by omega), h 4 _ (by omega), h 5 _ (by omega)]
  exact m7 t f h1 h2 h3 h4
theorem MB_c {M M' : Mem} (h : ∀ c y : Int, (c = 88 ∧ (y = 0 ∨ y = 3)) ∨ c = 89 ∨ c = 91 ∨ c = 92 ∨ c = 95 → M' c y = M c y) (q : MB M) : MB M' := by
  obtain ⟨b1, b2, b3, b4, b5, b6⟩ := q
  exact ⟨by rw [h 88 0 (by omega)]; exact b1, fun i => by rw [h 89 i (by omega)]; exact b2 i, by rw [h 88 3 (by omega)]; exact b3, fun i => by rw [h 91 i (by omega)]; exact b4 i, fun i => by rw [h 92 i (by omega)]; exact b5 i, fun i => by rw [h 95 i (by omega)]; exact b6 i⟩
theorem RT_c {M M' : Mem} (h : ∀ c y : Int, (13 ≤ c ∧ c ≤ 16) ∨ c = 94 ∨ (96 ≤ c ∧ c ≤ 98) → M' c y = M c y) (q : RT M M) : RT M' M' := by
  obtain ⟨t1, t2, t3, t4⟩ := q
  exact ⟨fun i => by rw [h 96 i (by omega), h 13 i (by omega)]; exact t1 i, fun i => by rw [h 97 i (by omega), h 14 i (by omega)]; exact t2 i, fun i => by rw [h 98 i (by omega), h 15 i (by omega)]; exact t3 i, fun i => by rw [h 94 i (by omega), h 16 i (by omega)]; exact t4 i⟩
theorem VR_c {M M' : Mem} (h : ∀ c y : Int, (1 ≤ c ∧ c ≤ 10) ∨ (91 ≤ c ∧ c ≤ 93) ∨ (c = 88 ∧ y = 3) → M' c y = M c y) (q : VR M M) : VR M' M' := by
  obtain ⟨v1, v2, v3⟩ := q
  refine ⟨fun r h1 h2 => by rw [h 91 r (by omega), h 7 _ (by omega)]; exact v1 r h1 h2, fun r f h1 h2 h3 h4 => ?_, by rw [h 88 3 (by omega), h 6 4 (by omega)]; exact v3⟩
  rw [h 6 4 (by omega)] at h2
  rw [h 7 _ (by omega), kO_c (fun c y c1 c2 => h c y (by omega)), h 8 _ (by omega), h 92 _ (by omega), h 93 _ (by omega), h 9 _ (by omega)]
  obtain ⟨w1, w2⟩ := v2 r f h1 h2 h3 h4
  refine ⟨w1, fun z => ⟨(w2 z).1, fun a a1 a2 => ?_⟩⟩
  rw [h 93 _ (by omega), h 10 _ (by omega)]
  exact (w2 z).2 a a1 a2
theorem R2_c {M M' : Mem} (h : ∀ c y : Int, (1 ≤ c ∧ c ≤ 16) ∨ (89 ≤ c ∧ c ≤ 98) ∨ (c = 88 ∧ (y = 0 ∨ y = 3)) → M' c y = M c y) (q : R2 M) : R2 M' := by
  obtain ⟨⟨a, b, c, d⟩, e⟩ := q
  refine ⟨⟨MT_c (fun c y q => h c y (by omega)) a, MB_c (fun c y q => h c y (by omega)) b, RT_c (fun c y q => h c y (by omega)) c, VR_c (fun c y q => h c y (by omega)) d⟩, fun r f h1 h2 h3 h4 => ?_⟩
  rw [h 92 _ (by omega)]
  exact e r f (by rw [h 6 4 (by omega)] at h1; exact h1) h2 h3 h4
theorem R3_c {M M' : Mem} (h : ∀ c y : Int, (c = 17 ∧ y = 5) ∨ (81 ≤ c ∧ c ≤ 87) ∨ (c = 88 ∧ (y = 12 ∨ y = 31 ∨ y = 33)) ∨ (114 ≤ c ∧ c ≤ 116) → M' c y = M c y) (q : R3 M) : R3 M' := by
  obtain ⟨a, cs, L, ⟨b1, b2, b3⟩, ⟨c1, c2, c3⟩, ⟨d1, d2⟩, e, f⟩ := q
  refine ⟨by rw [h 88 12 (by omega), h 17 5 (by omega)]; exact a, cs, L, ⟨by rw [h 81 4 (by omega)]; exact b1, arL_eq (fun y => h 87 y (by omega)) b2, b3⟩, ⟨by rw [h 83 4 (by omega)]; exact c1, c2, fun k hk => ?_⟩, ⟨by rw [h 88 31 (by omega)]; exact d1, arL_eq (fun y => h 114 y (by omega)) d2⟩, by rw [h 88 33 (by omega)]; exact e, PLC_eq (fun c y q => h c y (by omega)) f⟩
  rw [h 85 _ (by omega)]
  exact ⟨(c3 k hk).1, arL_eq (fun y => h 86 y (by omega)) (c3 k hk).2⟩
-- ===== the calls, one by one: the same answer, and side by side again
theorem O_type {M : Mem} (h : REL M) : let M1 := if 5 ≤ M 1 4 ∨ 0 < M 6 4 then M else up M 1 4 (M 1 4 + 1)
    (if 5 ≤ M 1 4 ∨ 0 < M 6 4 then -2 else M 1 4) = (if M1 88 0 = 5 ∨ 0 < M1 88 3 then -2 else M1 88 0) ∧ REL (if M1 88 0 = 5 ∨ 0 < M1 88 3 then M1 else up M1 88 0 (M1 88 0 + 1)) := by
  intro M1
  obtain ⟨⟨s1, s2, s3, s4, s5, s6, s7⟩, ⟨⟨t1, t2, t3, t4⟩, t5⟩, u⟩ := id h
  have e0 : M 88 0 = M 1 4 := t1.2.2.2.2.1
  have e3 : M 88 3 = M 6 4 := t4.2.2
  have hc := s1.1
  have hr := s5
  by_cases q : 5 ≤ M 1 4 ∨ 0 < M 6 4
  · have hM : M1 = M := if_pos q
    have hc2 := hc.2.1
    rw [hM, if_pos q, if_pos (by omega), if_pos (by omega)]
    exact ⟨rfl, h⟩
  · have hM : M1 = up M 1 4 (M 1 4 + 1) := if_neg q
    have n0 : M1 88 0 = M 1 4 := by rw [hM, up_nc (by decide)]; exact e0
    have n3 : M1 88 3 = M 6 4 := by rw [hM, up_nc (by decide)]; exact e3
    rw [if_neg q, n0, n3, if_neg (by omega), if_neg (by omega)]
    refine ⟨rfl, ?_⟩
    rw [hM]
    have hz : M 6 4 = 0 := by have := hr.1; omega
    have k : ∀ c y : Int, ¬ (c = 1 ∧ y = 4) → ¬ (c = 88 ∧ y = 0) → up (up M 1 4 (M 1 4 + 1)) 88 0 (M 1 4 + 1) c y = M c y := fun c y h1 h2 => by rw [up_nc_or (by omega), up_nc_or (by omega)]
    generalize hN : up (up M 1 4 (M 1 4 + 1)) 88 0 (M 1 4 + 1) = N at k
    have k14 : N 1 4 = M 1 4 + 1 := by rw [← hN, up_nc (by decide), up_eq]
    have k880 : N 88 0 = M 1 4 + 1 := by rw [← hN, up_eq]
    have k64 : N 6 4 = 0 := by rw [k 6 4 (by omega) (by omega)]; exact hz
    refine ⟨⟨⟨⟨by rw [k14]; have := hc.1; omega, by rw [k14]; omega, fun t => by rw [k 2 t (by omega) (by omega)]; exact hc.2.2 t⟩, fun t f w => ?_, fun t w => ?_⟩, TXT_c (fun c y c1 c2 => k c y (by omega) (by omega)) s2, ROW_c (fun c y c1 c2 => k c y (by omega) (by omega)) s3, fun r f a h1 h2 => by omega, by unfold RC; rw [k64]; decide, by rw [k 20 4 (by omega) (by omega)]; exact s6, by rw [k 20 10 (by omega) (by omega)]; exact s7⟩, ⟨⟨?_, ?_, RT_c (fun c y q => k c y (by omega) (by omega)) t3, fun r h1 h2 => by rw [k 91 r (by omega) (by omega), k 7 _ (by omega) (by omega)]; exact t4.1 r h1 h2, fun r f h1 h2 => by omega, by rw [k 88 3 (by omega) (by omega), k64, e3]; exact hz⟩, fun r f h1 h2 h3 h4 => ?_⟩, R3_c (fun c y q => k c y (by omega) (by omega)) u⟩
    · obtain ⟨⟨w1, w2⟩, w3, w4⟩ := w
      rw [k14] at w2
      rw [k 2 t (by omega) (by omega)] at w4
      rw [k 3 _ (by omega) (by omega), k 4 _ (by omega) (by omega), k 5 _ (by omega) (by omega)]
      refine s1.2.1 t f ⟨⟨w1, ?_⟩, w3, w4⟩
      apply Classical.byContradiction
      intro z
      have := s1.2.2 t (by omega)
      omega
    · rw [k14] at w
      rw [k 2 t (by omega) (by omega)]
      exact s1.2.2 t (by omega)
    · obtain ⟨m1, m2, m3, m4, m5, m6, m7⟩ := t1
      refine ⟨fun i => by rw [k 95 i (by omega) (by omega), k 12 i (by omega) (by omega)]; exact m1 i, fun i => by rw [k 96 i (by omega) (by omega), k 13 i (by omega) (by omega)]; exact m2 i, fun i => by rw [k 97 i (by omega) (by omega), k 14 i (by omega) (by omega)]; exact m3 i, fun i => by rw [k 98 i (by omega) (by omega), k 15 i (by omega) (by omega)]; exact m4 i, by rw [k880, k14], fun t => by rw [k 89 t (by omega) (by omega), k 2 t (by omega) (by omega)]; exact m6 t, fun t f h1 h2 h3 h4 => ?_⟩
      rw [k 90 _ (by omega) (by omega), k 90 _ (by omega) (by omega), k 90 _ (by omega) (by omega), k 3 _ (by omega) (by omega), k 4 _ (by omega) (by omega), k 5 _ (by omega) (by omega)]
      exact m7 t f h1 h2 h3 h4
    · obtain ⟨b1, b2, b3, b4, b5, b6⟩ := t2
      exact ⟨by rw [k880]; have := hc.1; omega, fun i => by rw [k 89 i (by omega) (by omega)]; exact b2 i, by rw [k 88 3 (by omega) (by omega)]; exact b3, fun i => by rw [k 91 i (by omega) (by omega)]; exact b4 i, fun i => by rw [k 92 i (by omega) (by omega)]; exact b5 i, fun i => by rw [k 95 i (by omega) (by omega)]; exact b6 i⟩
    · rw [k 92 _ (by omega) (by omega)]
      exact t5 r f (by omega) h2 h3 h4
theorem O_field {M : Mem} (h : REL M) (t k g r : Int) (hr01 : r = 0 ∨ r = 1) : let M1 := if fdB M t k g then M else if fdF M t then M else up (up (up (up M 3 (t * 4 + M 2 t) k) 4 (t * 4 + M 2 t) g) 5 (t * 4 + M 2 t) r) 2 t (M 2 t + 1)
    (if fdB M t k g then -1 else if fdF M t then -2 else M 2 t) = (if mfB M1 t k g then -1 else if mfF M1 t then -2 else M1 89 t) ∧ REL (if mfB M1 t k g then M1 else if mfF M1 t then M1 else up (up (up (up M1 90 (12 * t + 3 * M1 89 t) k) 90 (12 * t + 3 * M1 89 t + 1) g) 90 (12 * t + 3 * M1 89 t + 2) (if r = 0 then 0 else 1)) 89 t (M1 89 t + 1)) := by
  intro M1
  obtain ⟨⟨s1, s2, s3, s4, s5, s6, s7⟩, ⟨⟨t1, t2, t3, t4⟩, t5⟩, u⟩ := id h
  have e0 : M 88 0 = M 1 4 := t1.2.2.2.2.1
  have e3 : M 88 3 = M 6 4 := t4.2.2
  have e89 : M 89 t = M 2 t := t1.2.2.2.2.2.1 t
  have hc := s1.1
  have h2t := hc.2.2 t
  have hrr := s5
  by_cases q : fdB M t k g
  · have hM : M1 = M := if_pos q
    have q2 : mfB M t k g := by unfold mfB; rw [e0]; unfold fdB at q; omega
    rw [hM, if_pos q, if_pos q2, if_pos q2]
    exact ⟨rfl, h⟩
  · have q2 : ¬ mfB M t k g := by unfold mfB; rw [e0]; unfold fdB at q; omega
    by_cases q3 : fdF M t
    · have hM : M1 = M := by show (if fdB M t k g then M else if fdF M t then M else _) = M; rw [if_neg q, if_pos q3]
      have q4 : mfF M t := by unfold mfF; rw [e3, e89]; unfold fdF at q3; omega
      rw [hM, if_neg q, if_pos q3, if_neg q2, if_pos q4, if_neg q2, if_pos q4]
      exact ⟨rfl, h⟩
    · have hM : M1 = up (up (up (up M 3 (t * 4 + M 2 t) k) 4 (t * 4 + M 2 t) g) 5 (t * 4 + M 2 t) r) 2 t (M 2 t + 1) := by show (if fdB M t k g then M else if fdF M t then M else _) = _; rw [if_neg q, if_neg q3]
      have kk : ∀ c y : Int, 88 ≤ c → M1 c y = M c y := fun c y hc => by rw [hM, up_nc (by omega), up_nc (by omega), up_nc (by omega), up_nc (by omega)]
      have q5 : ¬ mfB M1 t k g := by unfold mfB; rw [kk 88 0 (by decide)]; exact q2
      have q6 : ¬ mfF M1 t := by unfold mfF; rw [kk 88 3 (by decide), kk 89 t (by decide), e3, e89]; unfold fdF at q3; omega
      rw [if_neg q, if_neg q3, if_neg q5, if_neg q6, if_neg q5, if_neg q6, kk 89 t (by decide), e89]
      refine ⟨rfl, ?_⟩
      rw [hM, show (if r = 0 then (0 : Int) else 1) = r by rcases hr01 with w | w <;> rw [w] <;> rfl]
      unfold fdB at q
      unfold fdF at q3
      have hz : M 6 4 = 0 := by have := hrr.1; omega
      have ht : 0 ≤ t ∧ t < M 1 4 := by omega
      have hf : 0 ≤ M 2 t ∧ M 2 t ≤ 3 := by omega
      have k' : ∀ c y : Int, c ≠ 3 → c ≠ 4 → c ≠ 5 → c ≠ 90 → ¬ (c = 2 ∧ y = t) → ¬ (c = 89 ∧ y = t) → up (up (up (up (up (up (up (up M 3 (t * 4 + M 2 t) k) 4 (t * 4 + M 2 t) g) 5 (t * 4 + M 2 t) r) 2 t (M 2 t + 1)) 90 (12 * t + 3 * M 2 t) k) 90 (12 * t + 3 * M 2 t + 1) g) 90 (12 * t + 3 * M 2 t + 2) r) 89 t (M 2 t + 1) c y = M c y := fun c y h1 h2 h3 h4 h5 h6 => by rw [up_nc_or (by omega), up_nc (by omega), up_nc (by omega), up_nc (by omega), up_nc_or (by omega), up_nc (by omega), up_nc (by omega), up_nc (by omega)]
      have k3 : ∀ y : Int, up (up (up (up (up (up (up (up M 3 (t * 4 + M 2 t) k) 4 (t * 4 + M 2 t) g) 5 (t * 4 + M 2 t) r) 2 t (M 2 t + 1)) 90 (12 * t + 3 * M 2 t) k) 90 (12 * t + 3 * M 2 t + 1) g) 90 (12 * t + 3 * M 2 t + 2) r) 89 t (M 2 t + 1) 3 y = if y = t * 4 + M 2 t then k else M 3 y := fun y => by
        rw [up_nc (by decide), up_nc (by decide), up_nc (by decide), up_nc (by decide), up_nc (by decide), up_nc (by decide), up_nc (by decide)]
        unfold up
        by_cases z : y = t * 4 + M 2 t
        · rw [if_pos ⟨rfl, z⟩, if_pos z]
        · rw [if_neg (fun w => z w.2), if_neg z]
      have k4 : ∀ y : Int, up (up (up (up (up (up (up (up M 3 (t * 4 + M 2 t) k) 4 (t * 4 + M 2 t) g) 5 (t * 4 + M 2 t) r) 2 t (M 2 t + 1)) 90 (12 * t + 3 * M 2 t) k) 90 (12 * t + 3 * M 2 t + 1) g) 90 (12 * t + 3 * M 2 t + 2) r) 89 t (M 2 t + 1) 4 y = if y = t * 4 + M 2 t then g else M 4 y := fun y => by
        rw [up_nc (by decide), up_nc (by decide), up_nc (by decide), up_nc (by decide), up_nc (by decide), up_nc (by decide)]
        by_cases z : y = t * 4 + M 2 t
        · rw [z, up_eq, if_pos rfl]
        · rw [up_nk z, if_neg z, up_nc (by decide)]
      have k5 : ∀ y : Int, up (up (up (up (up (up (up (up M 3 (t * 4 + M 2 t) k) 4 (t * 4 + M 2 t) g) 5 (t * 4 + M 2 t) r) 2 t (M 2 t + 1)) 90 (12 * t + 3 * M 2 t) k) 90 (12 * t + 3 * M 2 t + 1) g) 90 (12 * t + 3 * M 2 t + 2) r) 89 t (M 2 t + 1) 5 y = if y = t * 4 + M 2 t then r else M 5 y := fun y => by
        rw [up_nc (by decide), up_nc (by decide), up_nc (by decide), up_nc (by decide), up_nc (by decide)]
        by_cases z : y = t * 4 + M 2 t
        · rw [z, up_eq, if_pos rfl]
        · rw [up_nk z, if_neg z, up_nc (by decide), up_nc (by decide)]
      have k90 : ∀ y : Int, up (up (up (up (up (up (up (up M 3 (t * 4 + M 2 t) k) 4 (t * 4 + M 2 t) g) 5 (t * 4 + M 2 t) r) 2 t (M 2 t + 1)) 90 (12 * t + 3 * M 2 t) k) 90 (12 * t + 3 * M 2 t + 1) g) 90 (12 * t + 3 * M 2 t + 2) r) 89 t (M 2 t + 1) 90 y = if y = 12 * t + 3 * M 2 t + 2 then r else if y = 12 * t + 3 * M 2 t + 1 then g else if y = 12 * t + 3 * M 2 t then k else M 90 y := fun y => by
        rw [up_nc (by decide)]
        by_cases z2 : y = 12 * t + 3 * M 2 t + 2
        · rw [if_pos z2, z2, up_eq]
        · rw [if_neg z2, up_nk z2]
          by_cases z1 : y = 12 * t + 3 * M 2 t + 1
          · rw [if_pos z1, z1, up_eq]
          · rw [if_neg z1, up_nk z1]
            by_cases z0 : y = 12 * t + 3 * M 2 t
            · rw [if_pos z0, z0, up_eq]
            · rw [if_neg z0, up_nk z0, up_nc (by decide), up_nc (by decide), up_nc (by decide), up_nc (by decide)]
      generalize hN : up (up (up (up (up (up (up (up M 3 (t * 4 + M 2 t) k) 4 (t * 4 + M 2 t) g) 5 (t * 4 + M 2 t) r) 2 t (M 2 t + 1)) 90 (12 * t + 3 * M 2 t) k) 90 (12 * t + 3 * M 2 t + 1) g) 90 (12 * t + 3 * M 2 t + 2) r) 89 t (M 2 t + 1) = N at k' k3 k4 k5 k90
      have k2t : N 2 t = M 2 t + 1 := by rw [← hN, up_nc (by decide), up_nc (by decide), up_nc (by decide), up_nc (by decide), up_eq]
      have k89t : N 89 t = M 2 t + 1 := by rw [← hN, up_eq]
      have k2 : ∀ y : Int, N 2 y = if y = t then M 2 t + 1 else M 2 y := fun y => by
        by_cases z : y = t
        · rw [if_pos z, z]; exact k2t
        · rw [if_neg z]; exact k' 2 y (by decide) (by decide) (by decide) (by decide) (by omega) (by omega)
      have k89 : ∀ y : Int, N 89 y = if y = t then M 2 t + 1 else M 89 y := fun y => by
        by_cases z : y = t
        · rw [if_pos z, z]; exact k89t
        · rw [if_neg z]; exact k' 89 y (by decide) (by decide) (by decide) (by decide) (by omega) (by omega)
      have kn : ∀ c y : Int, c ≠ 3 → c ≠ 4 → c ≠ 5 → c ≠ 90 → c ≠ 2 → c ≠ 89 → N c y = M c y := fun c y h1 h2 h3 h4 h5 h6 => k' c y h1 h2 h3 h4 (by omega) (by omega)
      have k14 : N 1 4 = M 1 4 := kn 1 4 (by decide) (by decide) (by decide) (by decide) (by decide) (by decide)
      have k64 : N 6 4 = 0 := by rw [kn 6 4 (by decide) (by decide) (by decide) (by decide) (by decide) (by decide)]; exact hz
      refine ⟨⟨⟨⟨by rw [k14]; exact hc.1, by rw [k14]; exact hc.2.1, fun y => ?_⟩, fun t' f' w => ?_, fun t' w => ?_⟩, TXT_c (fun c y c1 c2 => kn c y (by omega) (by omega) (by omega) (by omega) (by omega) (by omega)) s2, ROW_c (fun c y c1 c2 => kn c y (by omega) (by omega) (by omega) (by omega) (by omega) (by omega)) s3, fun r f a h1 h2 => by omega, by unfold RC; rw [k64]; decide, by rw [kn 20 4 (by decide) (by decide) (by decide) (by decide) (by decide) (by decide)]; exact s6, by rw [kn 20 10 (by decide) (by decide) (by decide) (by decide) (by decide) (by decide)]; exact s7⟩, ⟨⟨?_, ?_, RT_c (fun c y q => kn c y (by omega) (by omega) (by omega) (by omega) (by omega) (by omega)) t3, fun r h1 h2 => by rw [kn 91 r (by decide) (by decide) (by decide) (by decide) (by decide) (by decide), kn 7 _ (by decide) (by decide) (by decide) (by decide) (by decide) (by decide)]; exact t4.1 r h1 h2, fun r f h1 h2 => by omega, by rw [kn 88 3 (by decide) (by decide) (by decide) (by decide) (by decide) (by decide), k64, e3]; exact hz⟩, fun r f h1 h2 h3 h4 => ?_⟩, R3_c (fun c y q => kn c y (by omega) (by omega) (by omega) (by omega) (by omega) (by omega)) u⟩
      · rw [k2]
        split
        · omega
        · exact hc.2.2 y
      · obtain ⟨⟨w1, w2⟩, w3, w4⟩ := w
        rw [k14] at w2
        rw [k2] at w4
        rw [k3, k4, k5]
        by_cases z : t' = t
        · rw [if_pos z] at w4
          by_cases z2 : f' = M 2 t
          · rw [if_pos (by rw [z, z2]), if_pos (by rw [z, z2]), if_pos (by rw [z, z2])]
            exact ⟨by omega, by omega, hr01⟩
          · rw [if_neg (by omega), if_neg (by omega), if_neg (by omega)]
            exact s1.2.1 t' f' ⟨⟨w1, w2⟩, w3, by rw [z]; omega⟩
        · rw [if_neg z] at w4
          have := hc.2.2 t'
          rw [if_neg (by omega), if_neg (by omega), if_neg (by omega)]
          exact s1.2.1 t' f' ⟨⟨w1, w2⟩, w3, w4⟩
      · rw [k14] at w
        rw [k2, if_neg (by omega)]
        exact s1.2.2 t' w
      · obtain ⟨m1, m2, m3, m4, m5, m6, m7⟩ := t1
        refine ⟨fun i => by rw [kn 95 i (by decide) (by decide) (by decide) (by decide) (by decide) (by decide), kn 12 i (by decide) (by decide) (by decide) (by decide) (by decide) (by decide)]; exact m1 i, fun i => by rw [kn 96 i (by decide) (by decide) (by decide) (by decide) (by decide) (by decide), kn 13 i (by decide) (by decide) (by decide) (by decide) (by decide) (by decide)]; exact m2 i, fun i => by rw [kn 97 i (by decide) (by decide) (by decide) (by decide) (by decide) (by decide), kn 14 i (by decide) (by decide) (by decide) (by decide) (by decide) (by decide)]; exact m3 i, fun i => by rw [kn 98 i (by decide) (by decide) (by decide) (by decide) (by decide) (by decide), kn 15 i (by decide) (by decide) (by decide) (by decide) (by decide) (by decide)]; exact m4 i, by rw [kn 88 0 (by decide) (by decide) (by decide) (by decide) (by decide) (by decide), k14]; exact m5, fun y => by rw [k89, k2]; split; rfl; exact m6 y, fun t' f' h1 h2 h3 h4 => ?_⟩
        rw [k90, k90, k90, k3, k4, k5]
        have h5 := m7 t' f' h1 h2 h3 h4
        by_cases z : t' * 4 + f' = t * 4 + M 2 t
        · have z2 : t' = t ∧ f' = M 2 t := by omega
          rw [if_pos z, if_pos z, if_pos z, z2.1, z2.2, if_neg (by omega), if_neg (by omega), if_pos rfl, if_neg (by omega), if_pos rfl, if_pos rfl]
          exact ⟨rfl, rfl, rfl⟩
        · rw [if_neg z, if_neg z, if_neg z, if_neg (by omega), if_neg (by omega), if_neg (by omega), if_neg (by omega), if_neg (by omega), if_neg (by omega), if_neg (by omega), if_neg (by omega), if_neg (by omega)]
          exact h5
      · obtain ⟨b1, b2, b3, b4, b5, b6⟩ := t2
        refine ⟨by rw [kn 88 0 (by decide) (by decide) (by decide) (by decide) (by decide) (by decide)]; exact b1, fun i => ?_, by rw [kn 88 3 (by decide) (by decide) (by decide) (by decide) (by decide) (by decide)]; exact b3, fun i => by rw [kn 91 i (by decide) (by decide) (by decide) (by decide) (by decide) (by decide)]; exact b4 i, fun i => by rw [kn 92 i (by decide) (by decide) (by decide) (by decide) (by decide) (by decide)]; exact b5 i, fun i => by rw [kn 95 i (by decide) (by decide) (by decide) (by decide) (by decide) (by decide)]; exact b6 i⟩
        rw [k89]
        split
        · omega
        · exact b2 i
      · rw [kn 92 _ (by decide) (by decide) (by decide) (by decide) (by decide) (by decide)]
        exact t5 r f (by omega) h2 h3 h4
