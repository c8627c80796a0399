theorem FLD {M : Mem} (h : REL M) {r f : Int} (q : ¬ mBf M r f) : (1 ≤ r ∧ r ≤ M 6 4) ∧ (0 ≤ f ∧ f ≤ 3) ∧ hasF M (M 7 (r - 1)) f ∧ M 91 r = M 7 (r - 1) ∧ M 90 (12 * M 91 r + 3 * f + 0) = kO M (M 7 (r - 1)) f ∧ M 90 (12 * M 91 r + 3 * f + 1) = tO M (M 7 (r - 1)) f ∧ M 4 (M 7 (r - 1) * 4 + f) = tO M (M 7 (r - 1)) f ∧ kIn M r f = kO M (M 7 (r - 1)) f ∧ (0 ≤ kO M (M 7 (r - 1)) f ∧ kO M (M 7 (r - 1)) f ≤ 2) := by
  obtain ⟨⟨s1, s2, s3, s4, s5, s6, s7⟩, ⟨⟨t1, t2, t3, t4⟩, t5⟩, u⟩ := h
  unfold mBf at q
  have e3 : M 88 3 = M 6 4 := t4.2.2
  have hr : 1 ≤ r ∧ r ≤ M 6 4 := by omega
  have h12 := s5.2
  have e91 := t4.1 r hr.1 (by omega)
  have e89 : M 89 (M 91 r) = M 2 (M 91 r) := t1.2.2.2.2.2.1 _
  have h2 := s1.1.2.2 (M 91 r)
  have hf : 0 ≤ f ∧ f < M 2 (M 91 r) := by omega
  have h7 := s3.2.2.2 (r - 1)
  have hty : M 91 r < M 1 4 := by
    apply Classical.byContradiction
    intro z
    have := s1.2.2 (M 91 r) (by omega)
    omega
  have hh : hasF M (M 7 (r - 1)) f := by rw [← e91]; exact ⟨⟨by omega, hty⟩, hf⟩
  have m7 := t1.2.2.2.2.2.2 (M 91 r) f (by omega) (by omega) (by omega) (by omega)
  have hk : kO M (M 7 (r - 1)) f = M 3 (M 7 (r - 1) * 4 + f) := by unfold kO; rw [if_pos hh]
  have ht : tO M (M 7 (r - 1)) f = M 4 (M 7 (r - 1) * 4 + f) := by unfold tO; rw [if_pos hh]
  have hb := s1.2.1 _ _ hh
  refine ⟨hr, by omega, hh, e91, by rw [Int.add_zero, m7.1, e91, hk], by rw [m7.2.1, e91, ht], ht.symm, ?_, by rw [hk]; exact hb.1⟩
  unfold kIn
  rw [if_pos hr, if_pos hh, hk]
theorem FLD_n {M : Mem} (h : REL M) {r f : Int} (q : mBf M r f) : kIn M r f = -1 := by
  obtain ⟨⟨s1, s2, s3, s4, s5, s6, s7⟩, ⟨⟨t1, t2, t3, t4⟩, t5⟩, u⟩ := h
  unfold mBf at q
  have e3 : M 88 3 = M 6 4 := t4.2.2
  unfold kIn
  by_cases hr : 1 ≤ r ∧ r ≤ M 6 4
  · have h12 := s5.2
    have e91 := t4.1 r hr.1 (by omega)
    have e89 : M 89 (M 91 r) = M 2 (M 91 r) := t1.2.2.2.2.2.1 _
    rw [if_pos hr, if_neg]
    rintro ⟨w1, w2⟩
    rw [← e91] at w2
    omega
  · rw [if_neg hr]
theorem kIn_0 {M : Mem} (h : REL M) {r f : Int} : (kIn M r f = -1 ↔ mBf M r f) := by
  constructor
  · intro q
    apply Classical.byContradiction
    intro z
    have := FLD h z
    omega
  · exact FLD_n h
/-- one field of one row gets another content -/
theorem O_cell {M N : Mem} (h : REL M) {r f : Int} (hr : 1 ≤ r ∧ r ≤ M 6 4) (hf : 0 ≤ f ∧ f ≤ 3)
    (F : ∀ a y : Int, ¬ ((a = 8 ∨ a = 9) ∧ y = (r - 1) * 4 + f) → ¬ (a = 10 ∧ ((r - 1) * 4 + f) * 4 ≤ y ∧ y < ((r - 1) * 4 + f) * 4 + 4) → ¬ (a = 92 ∧ y = 4 * r + f) → ¬ (a = 93 ∧ 4 * (4 * r + f) ≤ y ∧ y < 4 * (4 * r + f) + 4) → N a y = M a y)
    (V8 : -1 ≤ N 8 ((r - 1) * 4 + f) ∧ N 8 ((r - 1) * 4 + f) ≤ 999) (V9 : 0 ≤ N 9 ((r - 1) * 4 + f) ∧ N 9 ((r - 1) * 4 + f) ≤ 4) (V92 : 0 ≤ N 92 (4 * r + f) ∧ N 92 (4 * r + f) ≤ 4)
    (L : ∀ a : Int, 0 ≤ a → a < N 9 ((r - 1) * 4 + f) → (1 ≤ N 10 (((r - 1) * 4 + f) * 4 + a) ∧ N 10 (((r - 1) * 4 + f) * 4 + a) ≤ M 6 4) ∧ (tO M (M 7 (r - 1)) f = 5 ∨ M 7 (N 10 (((r - 1) * 4 + f) * 4 + a) - 1) = tO M (M 7 (r - 1)) f))
    (K0 : kO M (M 7 (r - 1)) f = 0 → (N 8 ((r - 1) * 4 + f) = -1 → N 92 (4 * r + f) = 0) ∧ (N 8 ((r - 1) * 4 + f) ≠ -1 → N 92 (4 * r + f) ≠ 0 ∧ N 93 (4 * (4 * r + f)) = N 8 ((r - 1) * 4 + f)))
    (K12 : kO M (M 7 (r - 1)) f = 1 ∨ kO M (M 7 (r - 1)) f = 2 → N 92 (4 * r + f) = N 9 ((r - 1) * 4 + f) ∧ ∀ a : Int, 0 ≤ a → a < N 9 ((r - 1) * 4 + f) → N 93 (4 * (4 * r + f) + a) = N 10 (((r - 1) * 4 + f) * 4 + a)) : REL N := by
  obtain ⟨⟨s1, s2, s3, s4, s5, s6, s7⟩, ⟨⟨t1, t2, t3, t4⟩, t5⟩, u⟩ := h
  have h12 := s5.2
  have k : ∀ a y : Int, a ≠ 8 → a ≠ 9 → a ≠ 10 → a ≠ 92 → a ≠ 93 → N a y = M a y := fun a y h1 h2 h3 h4 h5 => F a y (by omega) (by omega) (by omega) (by omega)
  have k64 : N 6 4 = M 6 4 := k 6 4 (by decide) (by decide) (by decide) (by decide) (by decide)
  have kk : ∀ t g : Int, kO N t g = kO M t g := fun t g => kO_c (fun c y c1 c2 => k c y (by omega) (by omega) (by omega) (by omega) (by omega)) t g
  have kt : ∀ t g : Int, tO N t g = tO M t g := fun t g => tO_c (fun c y c1 c2 => k c y (by omega) (by omega) (by omega) (by omega) (by omega)) t g
  have k7 : ∀ y : Int, N 7 y = M 7 y := fun y => k 7 y (by decide) (by decide) (by decide) (by decide) (by decide)
  refine ⟨⟨SCH_c (fun c y c1 c2 => k c y (by omega) (by omega) (by omega) (by omega) (by omega)) s1, TXT_c (fun c y c1 c2 => k c y (by omega) (by omega) (by omega) (by omega) (by omega)) s2, ⟨fun y => ?_, fun y => ?_, fun i j h1 h2 h3 h4 => ?_, fun y => by rw [k7]; exact s3.2.2.2 y⟩, fun r' f' a h1 h2 h3 h4 h5 h6 => ?_, by unfold RC; rw [k64]; exact s5, by rw [k 20 4 (by decide) (by decide) (by decide) (by decide) (by decide)]; exact s6, by rw [k 20 10 (by decide) (by decide) (by decide) (by decide) (by decide)]; exact s7⟩, ⟨⟨MT_c (fun c y q => k c y (by omega) (by omega) (by omega) (by omega) (by omega)) t1, ⟨by rw [k 88 0 (by decide) (by decide) (by decide) (by decide) (by decide)]; exact t2.1, fun i => by rw [k 89 i (by decide) (by decide) (by decide) (by decide) (by decide)]; exact t2.2.1 i, by rw [k 88 3 (by decide) (by decide) (by decide) (by decide) (by decide)]; exact t2.2.2.1, fun i => by rw [k 91 i (by decide) (by decide) (by decide) (by decide) (by decide)]; exact t2.2.2.2.1 i, fun i => ?_, fun i => by rw [k 95 i (by decide) (by decide) (by decide) (by decide) (by decide)]; exact t2.2.2.2.2.2 i⟩, RT_c (fun c y q => k c y (by omega) (by omega) (by omega) (by omega) (by omega)) t3, fun r' h1 h2 => by rw [k 91 r' (by decide) (by decide) (by decide) (by decide) (by decide), k7]; exact t4.1 r' h1 h2, fun r' f' h1 h2 h3 h4 => ?_, by rw [k 88 3 (by decide) (by decide) (by decide) (by decide) (by decide), k64]; exact t4.2.2⟩, fun r' f' h1 h2 h3 h4 => ?_⟩, R3_c (fun c y q => k c y (by omega) (by omega) (by omega) (by omega) (by omega)) u⟩
  · by_cases z : y = (r - 1) * 4 + f
    · rw [z]; exact V8
    · rw [F 8 y (by omega) (by omega) (by omega) (by omega)]; exact s3.1 y
  · by_cases z : y = (r - 1) * 4 + f
    · rw [z]; exact V9
    · rw [F 9 y (by omega) (by omega) (by omega) (by omega)]; exact s3.2.1 y
  · by_cases z : i = (r - 1) * 4 + f
    · rw [z] at h4 ⊢
      have := (L j h3 h4).1
      omega
    · rw [F 9 i (by omega) (by omega) (by omega) (by omega)] at h4
      have h9 := s3.2.1 i
      rw [F 10 _ (by omega) (by omega) (by omega) (by omega)]
      exact s3.2.2.1 i j h1 h2 h3 h4
  · rw [k64] at h2 ⊢
    rw [kt, k7, k7]
    by_cases z : (r' - 1) * 4 + f' = (r - 1) * 4 + f
    · have z2 : r' = r ∧ f' = f := by omega
      rw [z2.1, z2.2] at h6 ⊢
      exact ⟨(L a h5 h6).2, (L a h5 h6).1.2⟩
    · rw [F 9 _ (by omega) (by omega) (by omega) (by omega)] at h6
      have h9 := s3.2.1 ((r' - 1) * 4 + f')
      rw [F 10 _ (by omega) (by omega) (by omega) (by omega)]
      exact s4 r' f' a h1 h2 h3 h4 h5 h6
  · by_cases z : i = 4 * r + f
    · rw [z]; exact V92
    · rw [F 92 i (by omega) (by omega) (by omega) (by omega)]; exact t2.2.2.2.2.1 i
  · rw [k64] at h2
    rw [kk, k7]
    by_cases z : (r' - 1) * 4 + f' = (r - 1) * 4 + f
    · have z2 : r' = r ∧ f' = f := by omega
      rw [z2.1, z2.2]
      exact ⟨K0, K12⟩
    · obtain ⟨w1, w2⟩ := t4.2.1 r' f' h1 h2 h3 h4
      rw [F 8 _ (by omega) (by omega) (by omega) (by omega), F 9 _ (by omega) (by omega) (by omega) (by omega), F 92 _ (by omega) (by omega) (by omega) (by omega), F 93 _ (by omega) (by omega) (by omega) (by omega)]
      have h9 := s3.2.1 ((r' - 1) * 4 + f')
      refine ⟨w1, fun y => ⟨(w2 y).1, fun a a1 a2 => ?_⟩⟩
      rw [F 93 _ (by omega) (by omega) (by omega) (by omega), F 10 _ (by omega) (by omega) (by omega) (by omega)]
      exact (w2 y).2 a a1 a2
  · rw [k64] at h1
    rw [F 92 _ (by omega) (by omega) (by omega) (by omega)]
    exact t5 r' f' h1 h2 h3 h4
theorem mBf_c {M M1 : Mem} (k : ∀ c y : Int, 88 ≤ c → M1 c y = M c y) (r f : Int) : mBf M1 r f ↔ mBf M r f := by
  unfold mBf
  rw [k 88 3 (by decide), k 91 r (by decide), k 89 _ (by decide)]
theorem O_put {M : Mem} (h : REL M) (r f x : Int) : let M1 := if ¬ kIn M r f = 0 ∨ ¬ (0 ≤ x ∧ x ≤ 999) then M else up M 8 ((r - 1) * 4 + f) x
    (if ¬ kIn M r f = 0 ∨ ¬ (0 ≤ x ∧ x ≤ 999) then (-1 : Int) else 0) = (if mBf M1 r f ∨ ¬ (0 ≤ x ∧ x ≤ 999) ∨ ¬ M1 90 (12 * M1 91 r + 3 * f + 0) = 0 then -1 else 0) ∧ REL (if mBf M1 r f ∨ ¬ (0 ≤ x ∧ x ≤ 999) ∨ ¬ M1 90 (12 * M1 91 r + 3 * f + 0) = 0 then M1 else up (up M1 92 (4 * r + f) 1) 93 (16 * r + 4 * f) x) := by
  intro M1
  have kk : ∀ c y : Int, 88 ≤ c → M1 c y = M c y := fun c y hc => by
    show (if _ then M else up M 8 ((r - 1) * 4 + f) x) c y = _
    split
    · rfl
    · rw [up_nc (by omega)]
  by_cases q : ¬ kIn M r f = 0 ∨ ¬ (0 ≤ x ∧ x ≤ 999)
  · have hM : M1 = M := if_pos q
    have q2 : mBf M1 r f ∨ ¬ (0 ≤ x ∧ x ≤ 999) ∨ ¬ M1 90 (12 * M1 91 r + 3 * f + 0) = 0 := by
      rw [hM]
      by_cases z : mBf M r f
      · exact Or.inl z
      · have := FLD h z
        rcases q with w | w
        · exact Or.inr (Or.inr (by rw [this.2.2.2.2.1, ← this.2.2.2.2.2.2.2.1]; exact w))
        · exact Or.inr (Or.inl w)
    rw [if_pos q, if_pos q2, if_pos q2, hM]
    exact ⟨rfl, h⟩
  · have hM : M1 = up M 8 ((r - 1) * 4 + f) x := if_neg q
    have hz : ¬ mBf M r f := fun z => by have := FLD_n h z; omega
    obtain ⟨f1, f2, f3, f4, f5, f6, f7, f8, f9⟩ := FLD h hz
    have q2 : ¬ (mBf M1 r f ∨ ¬ (0 ≤ x ∧ x ≤ 999) ∨ ¬ M1 90 (12 * M1 91 r + 3 * f + 0) = 0) := by
      rw [mBf_c kk, kk 91 r (by decide), kk 90 _ (by decide), f5, ← f8]
      rintro (w | w | w)
      · exact hz w
      · omega
      · omega
    have h12 := h.1.2.2.2.2.1.2
    rw [if_neg q, if_neg q2, if_neg q2, hM, show 16 * r + 4 * f = 4 * (4 * r + f) by omega]
    have h9 := h.1.2.2.1.2.1 ((r - 1) * 4 + f)
    have v8 : up (up (up M 8 ((r - 1) * 4 + f) x) 92 (4 * r + f) 1) 93 (4 * (4 * r + f)) x 8 ((r - 1) * 4 + f) = x := by rw [up_nc (by decide), up_nc (by decide), up_eq]
    have v9 : up (up (up M 8 ((r - 1) * 4 + f) x) 92 (4 * r + f) 1) 93 (4 * (4 * r + f)) x 9 ((r - 1) * 4 + f) = M 9 ((r - 1) * 4 + f) := by rw [up_nc (by decide), up_nc (by decide), up_nc (by decide)]
    have v10 : ∀ y : Int, up (up (up M 8 ((r - 1) * 4 + f) x) 92 (4 * r + f) 1) 93 (4 * (4 * r + f)) x 10 y = M 10 y := fun y => by rw [up_nc (by decide), up_nc (by decide), up_nc (by decide)]
    have v92 : up (up (up M 8 ((r - 1) * 4 + f) x) 92 (4 * r + f) 1) 93 (4 * (4 * r + f)) x 92 (4 * r + f) = 1 := by rw [up_nc (by decide), up_eq]
    refine ⟨rfl, O_cell h f1 f2 (fun a y h1 h2 h3 h4 => by rw [up_nc_or (by omega), up_nc_or (by omega), up_nc_or (by omega)]) (by rw [v8]; omega) (by rw [v9]; exact h9) (by rw [v92]; decide) (fun a a1 a2 => ?_) (fun _ => ⟨fun w => by rw [v8] at w; omega, fun _ => ⟨by rw [v92]; decide, by rw [up_eq, v8]⟩⟩) (fun w => by omega)⟩
    rw [v9] at a2
    rw [v10]
    have w1 := h.1.2.2.2.1 r f a f1.1 f1.2 f2.1 f2.2 a1 a2
    have w2 := h.1.2.2.1.2.2.1 ((r - 1) * 4 + f) a (by omega) (by omega) a1 a2
    exact ⟨⟨w2.1, w1.2⟩, w1.1⟩
theorem O_clear {M : Mem} (h : REL M) (r f : Int) : let M1 := if kIn M r f = -1 then M else up (up M 8 ((r - 1) * 4 + f) (-1)) 9 ((r - 1) * 4 + f) 0
    (if kIn M r f = -1 then (-1 : Int) else 0) = (if mBf M1 r f then -1 else 0) ∧ REL (if mBf M1 r f then M1 else up M1 92 (4 * r + f) 0) := by
  intro M1
  have kk : ∀ c y : Int, 88 ≤ c → M1 c y = M c y := fun c y hc => by
    show (if _ then M else up (up M 8 ((r - 1) * 4 + f) (-1)) 9 ((r - 1) * 4 + f) 0) c y = _
    split
    · rfl
    · rw [up_nc (by omega), up_nc (by omega)]
  by_cases q : kIn M r f = -1
  · have hM : M1 = M := if_pos q
    have q2 := (kIn_0 h).mp q
    rw [if_pos q, hM, if_pos q2, if_pos q2]
    exact ⟨rfl, h⟩
  · have hM : M1 = up (up M 8 ((r - 1) * 4 + f) (-1)) 9 ((r - 1) * 4 + f) 0 := if_neg q
    have hz : ¬ mBf M r f := fun z => q ((kIn_0 h).mpr z)
    have q2 : ¬ mBf M1 r f := by rw [mBf_c kk]; exact hz
    obtain ⟨f1, f2, f3, f4, f5, f6, f7, f8, f9⟩ := FLD h hz
    rw [if_neg q, if_neg q2, if_neg q2, hM]
    have v8 : up (up (up M 8 ((r - 1) * 4 + f) (-1)) 9 ((r - 1) * 4 + f) 0) 92 (4 * r + f) 0 8 ((r - 1) * 4 + f) = -1 := by rw [up_nc (by decide), up_nc (by decide), up_eq]
    have v9 : up (up (up M 8 ((r - 1) * 4 + f) (-1)) 9 ((r - 1) * 4 + f) 0) 92 (4 * r + f) 0 9 ((r - 1) * 4 + f) = 0 := by rw [up_nc (by decide), up_eq]
    exact ⟨rfl, O_cell h f1 f2 (fun a y h1 h2 h3 h4 => by rw [up_nc_or (by omega), up_nc_or (by omega), up_nc_or (by omega)]) (by rw [v8]; decide) (by rw [v9]; decide) (by rw [up_eq]; decide) (fun a a1 a2 => by rw [v9] at a2; omega) (fun _ => ⟨fun _ => up_eq _ _ _ _, fun w => absurd v8 w⟩) (fun _ => ⟨by rw [up_eq, v9], fun a a1 a2 => by rw [v9] at a2; omega⟩)⟩
theorem O_link {M : Mem} (h : REL M) (r f x : Int) (M1 : Mem) (hM1 : M1 = if lkB M r f x then M else if kIn M r f = 1 then up (up (up (up M 8 ((r - 1) * 4 + f) (-1)) 9 ((r - 1) * 4 + f) 0) 10 (((r - 1) * 4 + f) * 4 + (up (up M 8 ((r - 1) * 4 + f) (-1)) 9 ((r - 1) * 4 + f) 0) 9 ((r - 1) * 4 + f)) x) 9 ((r - 1) * 4 + f) ((up (up M 8 ((r - 1) * 4 + f) (-1)) 9 ((r - 1) * 4 + f) 0) 9 ((r - 1) * 4 + f) + 1) else if 4 ≤ M 9 ((r - 1) * 4 + f) then M else up (up M 10 (((r - 1) * 4 + f) * 4 + M 9 ((r - 1) * 4 + f)) x) 9 ((r - 1) * 4 + f) (M 9 ((r - 1) * 4 + f) + 1)) :
    (if lkB M r f x then -1 else if kIn M r f = 1 then 1 else if 4 ≤ M 9 ((r - 1) * 4 + f) then -2 else M 9 ((r - 1) * 4 + f) + 1) = (if mlB M1 r f x then -1 else if mlN M1 r f = 4 then -2 else mlN M1 r f + 1) ∧ REL (if mlB M1 r f x then M1 else if mlN M1 r f = 4 then M1 else up (up M1 93 (4 * (4 * r + f) + mlN M1 r f) x) 92 (4 * r + f) (mlN M1 r f + 1)) := by
  have kk : ∀ c y : Int, 88 ≤ c → M1 c y = M c y := fun c y hc => by
    rw [hM1]
    split
    · rfl
    · split
      · rw [up_nc (by omega), up_nc (by omega), up_nc (by omega), up_nc (by omega)]
      · split
        · rfl
        · rw [up_nc (by omega), up_nc (by omega)]
  have cB : mlB M1 r f x ↔ mlB M r f x := by
    unfold mlB
    rw [mBf_c kk, kk 88 3 (by decide), kk 91 r (by decide), kk 90 _ (by decide), kk 90 _ (by decide), kk 91 x (by decide)]
  have cN : mlN M1 r f = mlN M r f := by
    unfold mlN
    rw [kk 91 r (by decide), kk 90 _ (by decide), kk 92 _ (by decide)]
  have e3 : M 88 3 = M 6 4 := h.2.1.1.2.2.2.2.2
  have h12 := h.1.2.2.2.2.1.2
  by_cases q : lkB M r f x
  · have hM : M1 = M := by rw [hM1, if_pos q]
    have q2 : mlB M r f x := by
      unfold mlB
      by_cases z : mBf M r f
      · exact Or.inl z
      · obtain ⟨f1, f2, f3, f4, f5, f6, f7, f8, f9⟩ := FLD h z
        rw [f5, f6, e3]
        unfold lkB at q
        rw [f8, f7] at q
        rcases q with w | w | w
        · exact Or.inr (Or.inr (Or.inl (by omega)))
        · exact Or.inr (Or.inl w)
        · by_cases hx : 1 ≤ x ∧ x ≤ M 6 4
          · have e91 := h.2.1.1.2.2.2.1 x hx.1 (by omega)
            exact Or.inr (Or.inr (Or.inr (by rw [e91]; exact w)))
          · exact Or.inr (Or.inl hx)
    rw [if_pos q, if_pos (cB.mpr q2), if_pos (cB.mpr q2), hM]
    exact ⟨rfl, h⟩
  · unfold lkB at q
    have hz : ¬ mBf M r f := fun z => by have := FLD_n h z; omega
    obtain ⟨f1, f2, f3, f4, f5, f6, f7, f8, f9⟩ := FLD h hz
    rw [f8, f7] at q
    have hx : 1 ≤ x ∧ x ≤ M 6 4 := by omega
    have e91 := h.2.1.1.2.2.2.1 x hx.1 (by omega)
    have q2 : ¬ mlB M r f x := by
      unfold mlB
      rw [f5, f6, e3, e91]
      rintro (w | w | w | w)
      · exact hz w
      · omega
      · omega
      · exact q (Or.inr (Or.inr w))
    have hL1 : lkB M r f x ↔ False := by
      unfold lkB
      rw [f8, f7]
      exact ⟨q, False.elim⟩
    have hty : tO M (M 7 (r - 1)) f = 5 ∨ M 7 (x - 1) = tO M (M 7 (r - 1)) f := by omega
    have h9 := h.1.2.2.1.2.1 ((r - 1) * 4 + f)
    rw [if_neg (fun w => hL1.mp w), if_neg (fun w => q2 (cB.mp w)), if_neg (fun w => q2 (cB.mp w)), cN]
    rw [if_neg (fun w => hL1.mp w)] at hM1
    by_cases q3 : kIn M r f = 1
    · have hn : mlN M r f = 0 := by unfold mlN; rw [f5, ← f8, q3]; rfl
      rw [if_pos q3] at hM1
      rw [if_pos q3, hn, if_neg (by decide), if_neg (by decide)]
      refine ⟨rfl, ?_⟩
      have e0 : (up (up M 8 ((r - 1) * 4 + f) (-1)) 9 ((r - 1) * 4 + f) 0) 9 ((r - 1) * 4 + f) = 0 := up_eq _ _ _ _
      rw [e0] at hM1
      rw [hM1]
      have v8 : up (up (up (up (up (up M 8 ((r - 1) * 4 + f) (-1)) 9 ((r - 1) * 4 + f) 0) 10 (((r - 1) * 4 + f) * 4 + 0) x) 9 ((r - 1) * 4 + f) (0 + 1)) 93 (4 * (4 * r + f) + 0) x) 92 (4 * r + f) (0 + 1) 8 ((r - 1) * 4 + f) = -1 := by rw [up_nc (by decide), up_nc (by decide), up_nc (by decide), up_nc (by decide), up_nc (by decide), up_eq]
      have v9 : up (up (up (up (up (up M 8 ((r - 1) * 4 + f) (-1)) 9 ((r - 1) * 4 + f) 0) 10 (((r - 1) * 4 + f) * 4 + 0) x) 9 ((r - 1) * 4 + f) (0 + 1)) 93 (4 * (4 * r + f) + 0) x) 92 (4 * r + f) (0 + 1) 9 ((r - 1) * 4 + f) = 1 := by rw [up_nc (by decide), up_nc (by decide), up_eq]; rfl
      have v10 : up (up (up (up (up (up M 8 ((r - 1) * 4 + f) (-1)) 9 ((r - 1) * 4 + f) 0) 10 (((r - 1) * 4 + f) * 4 + 0) x) 9 ((r - 1) * 4 + f) (0 + 1)) 93 (4 * (4 * r + f) + 0) x) 92 (4 * r + f) (0 + 1) 10 (((r - 1) * 4 + f) * 4 + 0) = x := by rw [up_nc (by decide), up_nc (by decide), up_nc (by decide), up_eq]
      have v93 : up (up (up (up (up (up M 8 ((r - 1) * 4 + f) (-1)) 9 ((r - 1) * 4 + f) 0) 10 (((r - 1) * 4 + f) * 4 + 0) x) 9 ((r - 1) * 4 + f) (0 + 1)) 93 (4 * (4 * r + f) + 0) x) 92 (4 * r + f) (0 + 1) 93 (4 * (4 * r + f) + 0) = x := by rw [up_nc (by decide), up_eq]
      refine O_cell h f1 f2 (fun a y h1 h2 h3 h4 => by rw [up_nc_or (by omega), up_nc_or (by omega), up_nc_or (by omega), up_nc_or (by omega), up_nc_or (by omega), up_nc_or (by omega)]) (by rw [v8]; decide) (by rw [v9]; decide) (by rw [up_eq]; decide) (fun a a1 a2 => ?_) (fun w => by omega) (fun _ => ⟨by rw [up_eq, v9]; rfl, fun a a1 a2 => ?_⟩)
      · rw [v9] at a2
        have : a = 0 := by omega
        rw [this, v10]
        exact ⟨hx, hty⟩
      · rw [v9] at a2
        have : a = 0 := by omega
        rw [this, v10, v93]
    · have h2 : kO M (M 7 (r - 1)) f = 2 := by rw [f8] at q3; omega
      have hvr := (h.2.1.1.2.2.2.2.1 r f f1.1 f1.2 f2.1 f2.2).2 (Or.inr h2)
      have hn : mlN M r f = M 9 ((r - 1) * 4 + f) := by unfold mlN; rw [f5, h2, if_pos rfl]; exact hvr.1
      rw [if_neg q3] at hM1
      rw [if_neg q3, hn]
      by_cases q4 : 4 ≤ M 9 ((r - 1) * 4 + f)
      · rw [if_pos q4] at hM1
        rw [if_pos q4, if_pos (by omega), if_pos (by omega), hM1]
        exact ⟨rfl, h⟩
      · rw [if_neg q4] at hM1
        rw [if_neg q4, if_neg (by omega), if_neg (by omega), hM1]
        refine ⟨rfl, ?_⟩
        generalize hm : M 9 ((r - 1) * 4 + f) = m at *
        have h8 := h.1.2.2.1.1 ((r - 1) * 4 + f)
        have v8 : up (up (up (up M 10 (((r - 1) * 4 + f) * 4 + m) x) 9 ((r - 1) * 4 + f) (m + 1)) 93 (4 * (4 * r + f) + m) x) 92 (4 * r + f) (m + 1) 8 ((r - 1) * 4 + f) = M 8 ((r - 1) * 4 + f) := by rw [up_nc (by decide), up_nc (by decide), up_nc (by decide), up_nc (by decide)]
        have v9 : up (up (up (up M 10 (((r - 1) * 4 + f) * 4 + m) x) 9 ((r - 1) * 4 + f) (m + 1)) 93 (4 * (4 * r + f) + m) x) 92 (4 * r + f) (m + 1) 9 ((r - 1) * 4 + f) = m + 1 := by rw [up_nc (by decide), up_nc (by decide), up_eq]
        have v10 : ∀ y : Int, up (up (up (up M 10 (((r - 1) * 4 + f) * 4 + m) x) 9 ((r - 1) * 4 + f) (m + 1)) 93 (4 * (4 * r + f) + m) x) 92 (4 * r + f) (m + 1) 10 y = if y = ((r - 1) * 4 + f) * 4 + m then x else M 10 y := fun y => by
          rw [up_nc (by decide), up_nc (by decide), up_nc (by decide)]
          by_cases z : y = ((r - 1) * 4 + f) * 4 + m
          · rw [if_pos z, z, up_eq]
          · rw [if_neg z, up_nk z]
        have v93 : ∀ y : Int, up (up (up (up M 10 (((r - 1) * 4 + f) * 4 + m) x) 9 ((r - 1) * 4 + f) (m + 1)) 93 (4 * (4 * r + f) + m) x) 92 (4 * r + f) (m + 1) 93 y = if y = 4 * (4 * r + f) + m then x else M 93 y := fun y => by
          rw [up_nc (by decide)]
          by_cases z : y = 4 * (4 * r + f) + m
          · rw [if_pos z, z, up_eq]
          · rw [if_neg z, up_nk z, up_nc (by decide), up_nc (by decide)]
        refine O_cell h f1 f2 (fun a y h1 h2 h3 h4 => by rw [up_nc_or (by omega), up_nc_or (by omega), up_nc_or (by omega), up_nc_or (by omega)]) (by rw [v8]; exact h8) (by rw [v9]; omega) (by rw [up_eq]; omega) (fun a a1 a2 => ?_) (fun w => by omega) (fun _ => ⟨by rw [up_eq, v9], fun a a1 a2 => ?_⟩)
        · rw [v9] at a2
          rw [v10]
          by_cases z : a = m
          · rw [if_pos (by omega)]
            exact ⟨hx, hty⟩
          · rw [if_neg (by omega)]
            have a3 : a < M 9 ((r - 1) * 4 + f) := by rw [hm]; omega
            have w1 := h.1.2.2.2.1 r f a f1.1 f1.2 f2.1 f2.2 a1 a3
            have w2 := h.1.2.2.1.2.2.1 ((r - 1) * 4 + f) a (by omega) (by omega) a1 a3
            exact ⟨⟨w2.1, w1.2⟩, w1.1⟩
        · rw [v9] at a2
          rw [v10, v93]
          by_cases z : a = m
          · rw [if_pos (by omega), if_pos (by omega)]
          · rw [if_neg (by omega), if_neg (by omega)]
            exact hvr.2 a a1 (by omega)
