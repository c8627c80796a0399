theorem adR_v {M : Mem} {t : Int} : (∀ c y : Int, c ≠ 7 → c ≠ 8 → c ≠ 9 → ¬ (c = 6 ∧ y = 4) → adR M t c y = M c y) ∧ adR M t 6 4 = M 6 4 + 1 ∧ (∀ y : Int, adR M t 7 y = if y = M 6 4 then t else M 7 y) ∧ (∀ y : Int, adR M t 8 y = if M 6 4 * 4 ≤ y ∧ y < M 6 4 * 4 + 4 then -1 else M 8 y) ∧ ∀ y : Int, adR M t 9 y = if M 6 4 * 4 ≤ y ∧ y < M 6 4 * 4 + 4 then 0 else M 9 y := by
  unfold adR
  refine ⟨fun c y h1 h2 h3 h4 => ?_, ?_, fun y => ?_, fun y => ?_, fun y => ?_⟩
  · rw [up_nc h3, up_nc h2, up_nc h3, up_nc h2, up_nc h3, up_nc h2, up_nc h3, up_nc h2, up_nc_or (by omega), up_nc h1]
  · rw [up_nc (by decide), up_nc (by decide), up_nc (by decide), up_nc (by decide), up_nc (by decide), up_nc (by decide), up_nc (by decide), up_nc (by decide), up_eq]
  · rw [up_nc (by decide), up_nc (by decide), up_nc (by decide), up_nc (by decide), up_nc (by decide), up_nc (by decide), up_nc (by decide), up_nc (by decide), up_nc (by decide)]
    by_cases z : y = M 6 4
    · rw [if_pos z, z, up_eq]
    · rw [if_neg z, up_nk z]
  · unfold up
    repeat (first | omega | rfl | split)
  · unfold up
    repeat (first | omega | rfl | split)
theorem O_row {M : Mem} (h : REL M) (t : Int) : let M1 := if ¬ (0 ≤ t ∧ t < M 1 4) then M else if 12 ≤ M 6 4 then M else adR M t
    (if ¬ (0 ≤ t ∧ t < M 1 4) then -1 else if 12 ≤ M 6 4 then -2 else M 6 4 + 1) = (if ¬ (0 ≤ t ∧ t ≤ M1 88 0 - 1) then -1 else if M1 88 3 = 12 then -2 else M1 88 3 + 1) ∧ REL (if ¬ (0 ≤ t ∧ t ≤ M1 88 0 - 1) then M1 else if M1 88 3 = 12 then M1 else up (up M1 88 3 (M1 88 3 + 1)) 91 (M1 88 3 + 1) t) := by
  intro M1
  obtain ⟨⟨s1, s2, s3, s4, s5, s6, s7⟩, ⟨⟨t1, t2, t3, t4⟩, t5⟩, u⟩ := id h
  have e0 : M 88 0 = M 1 4 := t1.2.2.2.2.1
  have e3 : M 88 3 = M 6 4 := t4.2.2
  have hr := s5
  have hc := s1.1
  have hc2 := hc.2.1
  obtain ⟨a1, a2, a3, a4, a5⟩ := adR_v (M := M) (t := t)
  have kk : ∀ c y : Int, 88 ≤ c → M1 c y = M c y := fun c y hc => by
    show (if _ then M else if 12 ≤ M 6 4 then M else adR M t) c y = _
    split
    · rfl
    · split
      · rfl
      · exact a1 c y (by omega) (by omega) (by omega) (by omega)
  rw [kk 88 0 (by decide), kk 88 3 (by decide), e0, e3]
  unfold RC at hr
  by_cases q : ¬ (0 ≤ t ∧ t < M 1 4)
  · rw [if_pos q, if_pos (by omega), if_pos (by omega), show M1 = M from if_pos q]
    exact ⟨rfl, h⟩
  · have q' : ¬ ¬ (0 ≤ t ∧ t ≤ M 1 4 - 1) := by omega
    rw [if_neg q, if_neg q', if_neg q']
    by_cases q2 : 12 ≤ M 6 4
    · have hM : M1 = M := by show (if _ then M else if 12 ≤ M 6 4 then M else adR M t) = M; rw [if_neg q, if_pos q2]
      rw [if_pos q2, if_pos (by omega), if_pos (by omega), hM]
      exact ⟨rfl, h⟩
    · have hM : M1 = adR M t := by show (if _ then M else if 12 ≤ M 6 4 then M else adR M t) = _; rw [if_neg q, if_neg q2]
      rw [if_neg q2, if_neg (by omega), if_neg (by omega), hM]
      refine ⟨rfl, ?_⟩
      have k : ∀ c y : Int, c ≠ 7 → c ≠ 8 → c ≠ 9 → ¬ (c = 6 ∧ y = 4) → ¬ (c = 88 ∧ y = 3) → c ≠ 91 → up (up (adR M t) 88 3 (M 6 4 + 1)) 91 (M 6 4 + 1) t c y = M c y := fun c y h1 h2 h3 h4 h5 h6 => by rw [up_nc h6, up_nc_or (by omega)]; exact a1 c y h1 h2 h3 h4
      have k64 : up (up (adR M t) 88 3 (M 6 4 + 1)) 91 (M 6 4 + 1) t 6 4 = M 6 4 + 1 := by rw [up_nc (by decide), up_nc (by decide)]; exact a2
      have k883 : up (up (adR M t) 88 3 (M 6 4 + 1)) 91 (M 6 4 + 1) t 88 3 = M 6 4 + 1 := by rw [up_nc (by decide), up_eq]
      have k7 : ∀ y : Int, up (up (adR M t) 88 3 (M 6 4 + 1)) 91 (M 6 4 + 1) t 7 y = if y = M 6 4 then t else M 7 y := fun y => by rw [up_nc (by decide), up_nc (by decide)]; exact a3 y
      have k8 : ∀ y : Int, up (up (adR M t) 88 3 (M 6 4 + 1)) 91 (M 6 4 + 1) t 8 y = if M 6 4 * 4 ≤ y ∧ y < M 6 4 * 4 + 4 then -1 else M 8 y := fun y => by rw [up_nc (by decide), up_nc (by decide)]; exact a4 y
      have k9 : ∀ y : Int, up (up (adR M t) 88 3 (M 6 4 + 1)) 91 (M 6 4 + 1) t 9 y = if M 6 4 * 4 ≤ y ∧ y < M 6 4 * 4 + 4 then 0 else M 9 y := fun y => by rw [up_nc (by decide), up_nc (by decide)]; exact a5 y
      have k91 : ∀ y : Int, up (up (adR M t) 88 3 (M 6 4 + 1)) 91 (M 6 4 + 1) t 91 y = if y = M 6 4 + 1 then t else M 91 y := fun y => by
        by_cases z : y = M 6 4 + 1
        · rw [if_pos z, z, up_eq]
        · rw [if_neg z, up_nk z, up_nc (by decide)]; exact a1 91 y (by decide) (by decide) (by decide) (by omega)
      generalize up (up (adR M t) 88 3 (M 6 4 + 1)) 91 (M 6 4 + 1) t = N at k k64 k883 k7 k8 k9 k91
      have kO' : ∀ a b : Int, kO N a b = kO M a b := fun a b => kO_c (fun c y c1 c2 => k c y (by omega) (by omega) (by omega) (by omega) (by omega) (by omega)) a b
      have tO' : ∀ a b : Int, tO N a b = tO M a b := fun a b => tO_c (fun c y c1 c2 => k c y (by omega) (by omega) (by omega) (by omega) (by omega) (by omega)) a b
      have k10 : ∀ y : Int, N 10 y = M 10 y := fun y => k 10 y (by omega) (by omega) (by omega) (by omega) (by omega) (by omega)
      have k92 : ∀ y : Int, N 92 y = M 92 y := fun y => k 92 y (by omega) (by omega) (by omega) (by omega) (by omega) (by omega)
      have k93 : ∀ y : Int, N 93 y = M 93 y := fun y => k 93 y (by omega) (by omega) (by omega) (by omega) (by omega) (by omega)
      refine ⟨⟨SCH_c (fun c y c1 c2 => k c y (by omega) (by omega) (by omega) (by omega) (by omega) (by omega)) s1, TXT_c (fun c y c1 c2 => k c y (by omega) (by omega) (by omega) (by omega) (by omega) (by omega)) s2, ⟨fun y => ?_, fun y => ?_, fun i j h1 h2 h3 h4 => ?_, fun y => ?_⟩, fun r f a h1 h2 h3 h4 h5 h6 => ?_, by unfold RC; rw [k64]; omega, by rw [k 20 4 (by omega) (by omega) (by omega) (by omega) (by omega) (by omega)]; exact s6, by rw [k 20 10 (by omega) (by omega) (by omega) (by omega) (by omega) (by omega)]; exact s7⟩, ⟨⟨MT_c (fun c y q => k c y (by omega) (by omega) (by omega) (by omega) (by omega) (by omega)) t1, ⟨by rw [k 88 0 (by omega) (by omega) (by omega) (by omega) (by omega) (by omega)]; exact t2.1, fun i => by rw [k 89 i (by omega) (by omega) (by omega) (by omega) (by omega) (by omega)]; exact t2.2.1 i, by rw [k883]; omega, fun i => ?_, fun i => by rw [k92]; exact t2.2.2.2.2.1 i, fun i => by rw [k 95 i (by omega) (by omega) (by omega) (by omega) (by omega) (by omega)]; exact t2.2.2.2.2.2 i⟩, RT_c (fun c y q => k c y (by omega) (by omega) (by omega) (by omega) (by omega) (by omega)) t3, fun r h1 h2 => ?_, fun r f h1 h2 h3 h4 => ?_, by rw [k883, k64]⟩, fun r f h1 h2 h3 h4 => by rw [k92]; exact t5 r f (by rw [k64] at h1; omega) h2 h3 h4⟩, R3_c (fun c y q => k c y (by omega) (by omega) (by omega) (by omega) (by omega) (by omega)) u⟩
      · rw [k8]; split; decide; exact s3.1 y
      · rw [k9]; split; decide; exact s3.2.1 y
      · rw [k10]
        rw [k9] at h4
        by_cases z : M 6 4 * 4 ≤ i ∧ i < M 6 4 * 4 + 4
        · rw [if_pos z] at h4; omega
        · rw [if_neg z] at h4
          exact s3.2.2.1 i j h1 h2 h3 h4
      · rw [k7]; split; omega; exact s3.2.2.2 y
      · rw [k64] at h2 ⊢
        rw [k9] at h6
        by_cases z : r = M 6 4 + 1
        · rw [if_pos (by omega)] at h6; omega
        · rw [if_neg (by omega)] at h6
          rw [tO', k10, k7, if_neg (by omega), k7]
          have w := s4 r f a h1 (by omega) h3 h4 h5 h6
          rw [if_neg (by omega)]
          exact ⟨w.1, by omega⟩
      · rw [k91]; split; omega; exact t2.2.2.2.1 i
      · rw [k91, k7]
        by_cases z : r = M 6 4 + 1
        · rw [if_pos z, if_pos (by omega)]
        · rw [if_neg z, if_neg (by omega)]; exact t4.1 r h1 h2
      · rw [k64] at h2
        rw [kO', k7, k8, k9, k92, k93]
        by_cases z : r = M 6 4 + 1
        · have h0 := t5 r f (by omega) (by omega) h3 h4
          rw [if_pos (by omega), if_pos (by omega), if_pos (by omega), h0]
          exact ⟨fun _ => ⟨fun _ => rfl, fun w => absurd rfl w⟩, fun _ => ⟨rfl, fun a a1 a2 => by omega⟩⟩
        · rw [if_neg (by omega), if_neg (by omega), if_neg (by omega)]
          obtain ⟨w1, w2⟩ := t4.2.1 r f h1 (by omega) h3 h4
          exact ⟨w1, fun y => ⟨(w2 y).1, fun a a1 a2 => by rw [k93, k10]; exact (w2 y).2 a a1 a2⟩⟩
theorem WP_of {M : Mem} (h : REL M) : WP M := ⟨h.1.1.1, h.1.2.1.1.1, h.1.2.1.2, h.1.2.2.2.2.2.1⟩
theorem O_check {M : Mem} (h : REL M) (t : Int) : let M1 := if ¬ (0 ≤ t ∧ t < M 1 4) then M else (wQ M t).2
    (MT M M1 ∧ MB M1) ∧ (if ¬ (0 ≤ t ∧ t < M 1 4) then -1 else if (wQ M t).1 = 0 then -3 else 0) = (if ¬ (0 ≤ t ∧ t < M1 88 0) then -1 else if ckQ M t = -1 then 0 else -3) ∧ ∀ M2 : Mem, ((¬ (0 ≤ t ∧ t < M1 88 0) → M2 = M1) ∧ ((0 ≤ t ∧ t < M1 88 0) → M2 88 12 = ckQ M t ∧ frK M1 M2)) → REL M2 := by
  intro M1
  obtain ⟨s, ⟨⟨t1, t2, t3, t4⟩, t5⟩, u⟩ := id h
  have e0 : M 88 0 = M 1 4 := t1.2.2.2.2.1
  obtain ⟨q1, q2, q3, q4⟩ := wQ_ck (WP_of h) s.2.1.1 t
  have kk : ∀ c y : Int, 88 ≤ c → M1 c y = M c y := fun c y hc => by
    show (if _ then M else (wQ M t).2) c y = _
    split
    · rfl
    · exact q3 c y (Or.inl (Or.inr (Or.inr (by omega)))) (by omega)
  have hMT : MT M M1 := by
    obtain ⟨m1, m2, m3, m4, m5, m6, m7⟩ := t1
    refine ⟨fun i => by rw [kk 95 i (by decide)]; exact m1 i, fun i => by rw [kk 96 i (by decide)]; exact m2 i, fun i => by rw [kk 97 i (by decide)]; exact m3 i, fun i => by rw [kk 98 i (by decide)]; exact m4 i, by rw [kk 88 0 (by decide)]; exact m5, fun i => by rw [kk 89 i (by decide)]; exact m6 i, fun t f h1 h2 h3 h4 => ?_⟩
    rw [kk 90 _ (by decide), kk 90 _ (by decide), kk 90 _ (by decide)]
    exact m7 t f h1 h2 h3 h4
  refine ⟨⟨hMT, MB_c (fun c y q => kk c y (by omega)) t2⟩, ?_⟩
  rw [kk 88 0 (by decide), e0]
  by_cases q : ¬ (0 ≤ t ∧ t < M 1 4)
  · have hM : M1 = M := if_pos q
    rw [if_pos q, if_pos q]
    refine ⟨rfl, fun M2 hM2 => ?_⟩
    rw [hM2.1 q, hM]
    exact h
  · have hM : M1 = (wQ M t).2 := if_neg q
    rw [if_neg q, if_neg q, q1]
    refine ⟨?_, fun M2 hM2 => ?_⟩
    · by_cases z : ckQ M t = -1
      · rw [if_pos z, if_neg (by decide), if_pos z]
      · rw [if_neg z, if_pos rfl, if_neg z]
    · obtain ⟨w1, w2⟩ := hM2.2 (Classical.not_not.mp q)
      rw [hM] at w2
      have k : ∀ c y : Int, (c < 17 ∨ 81 ≤ c ∨ (c = 20 ∧ (y = 4 ∨ y = 10))) → c ≠ 99 → c ≠ 100 → c ≠ 101 → ¬ (c = 88 ∧ (y = 12 ∨ y = 13)) → M2 c y = M c y := fun c y h1 h2 h3 h4 h5 => by
        rw [w2 c y h2 h3 h4 (by omega)]
        exact q3 c y (by unfold frC; omega) (by omega)
      refine ⟨R1_c (fun c y q => k c y (by omega) (by omega) (by omega) (by omega) (by omega)) s, R2_c (fun c y q => k c y (by omega) (by omega) (by omega) (by omega) (by omega)) ⟨⟨t1, t2, t3, t4⟩, t5⟩, ?_, ?_⟩
      · rw [w1, w2 17 5 (by decide) (by decide) (by decide) (by decide)]; exact q2.symm
      · have : R3 (fun c y => if c = 88 ∧ y = 12 then M 17 5 else if c = 17 ∧ y = 5 then M 17 5 else M2 c y) := by
          refine R3_c (M := M) (fun c y w => ?_) u
          show (if c = 88 ∧ y = 12 then M 17 5 else if c = 17 ∧ y = 5 then M 17 5 else M2 c y) = M c y
          by_cases z1 : c = 88 ∧ y = 12
          · rw [if_pos z1, z1.1, z1.2]; exact u.1.symm
          · rw [if_neg z1]
            by_cases z2 : c = 17 ∧ y = 5
            · rw [if_pos z2, z2.1, z2.2]
            · rw [if_neg z2]; exact k c y (by omega) (by omega) (by omega) (by omega) (by omega)
        obtain ⟨-, cs, L, p1, p2, p3, p4, p5⟩ := this
        exact ⟨cs, L, p1, p2, p3, p4, p5⟩
theorem REFT_x {M M1 : Mem} (kk : ∀ c y : Int, 88 ≤ c → M1 c y = M c y) (h : REFT M M) : REFT M M1 := by
  obtain ⟨⟨m1, m2, m3, m4, m5, m6, m7⟩, b, ⟨t1, t2, t3, t4⟩, v1, v2, v3⟩ := h
  refine ⟨⟨fun i => by rw [kk 95 i (by decide)]; exact m1 i, fun i => by rw [kk 96 i (by decide)]; exact m2 i, fun i => by rw [kk 97 i (by decide)]; exact m3 i, fun i => by rw [kk 98 i (by decide)]; exact m4 i, by rw [kk 88 0 (by decide)]; exact m5, fun i => by rw [kk 89 i (by decide)]; exact m6 i, fun t f h1 h2 h3 h4 => ?_⟩, MB_c (fun c y q => kk c y (by omega)) b, ⟨fun i => by rw [kk 96 i (by decide)]; exact t1 i, fun i => by rw [kk 97 i (by decide)]; exact t2 i, fun i => by rw [kk 98 i (by decide)]; exact t3 i, fun i => by rw [kk 94 i (by decide)]; exact t4 i⟩, fun r h1 h2 => by rw [kk 91 r (by decide)]; exact v1 r h1 h2, fun r f h1 h2 h3 h4 => ?_, by rw [kk 88 3 (by decide)]; exact v3⟩
  · rw [kk 90 _ (by decide), kk 90 _ (by decide), kk 90 _ (by decide)]
    exact m7 t f h1 h2 h3 h4
  · rw [kk 92 _ (by decide), kk 93 _ (by decide)]
    obtain ⟨w1, w2⟩ := v2 r f h1 h2 h3 h4
    exact ⟨w1, fun y => ⟨(w2 y).1, fun a a1 a2 => by rw [kk 93 _ (by decide)]; exact (w2 y).2 a a1 a2⟩⟩
/-- ask: what the class's answer gives for the reference's -/
theorem O_ask {M : Mem} (h : REL M) (r v : Int) (M1 : Mem)
    (hP : (¬ (1 ≤ r ∧ r ≤ M 6 4) → v = -1 ∧ M1 = M) ∧ ((1 ≤ r ∧ r ≤ M 6 4) → (¬ ckQ M (M 7 (r - 1)) = -1 → v = -3 ∧ M1 = up (up (up (wQ M (M 7 (r - 1))).2 81 4 0) 83 3 0) 83 4 0) ∧ (ckQ M (M 7 (r - 1)) = -1 → (∃ m : Nat, m ≤ 60 ∧ PS M (M 7 (r - 1)) m (wQ M (M 7 (r - 1))).2 ∧ tS M (M 7 (r - 1)) m = [] ∧ ∀ i : Nat, i < m → tS M (M 7 (r - 1)) i ≠ []) ∧ ANS (wQ M (M 7 (r - 1))).2 r v M1 ∧ ff (wQ M (M 7 (r - 1))).2 [20] (wQ M (M 7 (r - 1))).2 M1))) :
    ∃ m : Nat, REFT M M1 ∧ ((1 ≤ r ∧ r ≤ M1 88 3) → ckQ M (M 7 (r - 1)) = -1 → EXB M (wQ M (M 7 (r - 1))).2 (M 7 (r - 1)) m) ∧ ∀ (v' : Int) (M2 : Mem), ((¬ (1 ≤ r ∧ r ≤ M1 88 3) → v' = -1 ∧ M2 = M1) ∧ ((1 ≤ r ∧ r ≤ M1 88 3) → fA M1 M2 ∧ M2 88 12 = ckQ M (M 7 (r - 1)) ∧ (¬ ckQ M (M 7 (r - 1)) = -1 → v' = -3 ∧ M2 88 31 = 0 ∧ M2 88 33 = 0) ∧ (ckQ M (M 7 (r - 1)) = -1 → RAN (wQ M (M 7 (r - 1))).2 r v' M2))) → v = v' ∧ REL M2 := by
  obtain ⟨s, ⟨t0, t5⟩, u⟩ := id h
  have e3 : M 88 3 = M 6 4 := t0.2.2.2.2.2
  obtain ⟨q1, q2, q3, q4⟩ := wQ_ck (WP_of h) s.2.1.1 (M 7 (r - 1))
  by_cases hr : 1 ≤ r ∧ r ≤ M 6 4
  · have hP2 := hP.2 hr
    have nR : ∀ c : Int, c ≤ 20 ∨ 81 ≤ c → (∃ m : Nat, m ≤ 60 ∧ PS M (M 7 (r - 1)) m (wQ M (M 7 (r - 1))).2 ∧ tS M (M 7 (r - 1)) m = [] ∧ ∀ i : Nat, i < m → tS M (M 7 (r - 1)) i ≠ []) → ckQ M (M 7 (r - 1)) = -1 → ¬ inR (wQ M (M 7 (r - 1))).2 [20] c := fun c hc hm hck w => by
      obtain ⟨m, m1, m2, m3, m4⟩ := hm
      have hPl := PLN_of s.2.1.1 m2 m1 m4 m3 (fun j hj => tI_rg s.2.1.1 (ckQ_1 hck).1 (ckQ_1 hck).2 m1 m4 hj)
      have := inR_rg hPl (L := [20]) (fun p hp => by simp at hp; omega) w
      have := hPl.1
      omega
    have k1 : ∀ c y : Int, (c < 17 ∨ 88 ≤ c ∨ (c = 20 ∧ (y = 4 ∨ y = 10))) → M1 c y = M c y := fun c y hc => by
      by_cases hck : ckQ M (M 7 (r - 1)) = -1
      · obtain ⟨hm, hA, hf⟩ := hP2.2 hck
        rw [hf c y (by omega) (fun w => nR c (by omega) hm hck w.1)]
        exact q3 c y (by unfold frC; omega) (by omega)
      · obtain ⟨-, hM⟩ := hP2.1 hck
        rw [hM, up_nc (by omega), up_nc (by omega), up_nc (by omega)]
        exact q3 c y (by unfold frC; omega) (by omega)
    have k175 : M1 17 5 = ckQ M (M 7 (r - 1)) := by
      by_cases hck : ckQ M (M 7 (r - 1)) = -1
      · obtain ⟨hm, hA, hf⟩ := hP2.2 hck
        rw [hf 17 5 (by decide) (fun w => nR 17 (by decide) hm hck w.1)]
        exact q2
      · obtain ⟨-, hM⟩ := hP2.1 hck
        rw [hM, up_nc (by decide), up_nc (by decide), up_nc (by decide)]
        exact q2
    have hRF : REFT M M1 := REFT_x (fun c y hc => k1 c y (by omega)) t0
    have hk3 : M1 88 3 = M 6 4 := by rw [k1 88 3 (by omega)]; exact e3
    have fin : ∀ (v' : Int) (M2 : Mem), fA M1 M2 → M2 88 12 = ckQ M (M 7 (r - 1)) → AR2 M2 → REL M2 := fun v' M2 f1 f2 f3 => by
      have k2 : ∀ c y : Int, ((c < 17) ∨ (89 ≤ c ∧ c ≤ 98) ∨ (c = 88 ∧ (y = 0 ∨ y = 3)) ∨ (c = 20 ∧ (y = 4 ∨ y = 10))) → M2 c y = M c y := fun c y hc => by rw [f1 c y (by omega)]; exact k1 c y (by omega)
      exact ⟨R1_c (fun c y q => k2 c y (by omega)) s, R2_c (fun c y q => k2 c y (by omega)) ⟨t0, t5⟩, by rw [f2, f1 17 5 (by decide)]; exact k175.symm, f3⟩
    have emp : ∀ M2 : Mem, M2 81 4 = 0 → M2 83 4 = 0 → M2 88 31 = 0 → M2 88 33 = 0 → AR2 M2 := fun M2 h1 h2 h3 h4 => ⟨[], [], ⟨h1, fun k hk => absurd hk (Nat.not_lt_zero k), by decide⟩, ⟨h2, by decide, fun k hk => absurd hk (Nat.not_lt_zero k)⟩, ⟨h3, fun k hk => absurd hk (Nat.not_lt_zero k)⟩, h4, fun p hp => absurd hp List.not_mem_nil, fun k hk => absurd hk (Nat.not_lt_zero k)⟩
    by_cases hck : ckQ M (M 7 (r - 1)) = -1
    · obtain ⟨⟨m, m1, m2, m3, m4⟩, hA, hf⟩ := hP2.2 hck
      refine ⟨m, hRF, fun _ _ => ⟨⟨s.2.1.1, s.1.1, m2, m1, m3, m4, (ckQ_1 hck).1, (ckQ_1 hck).2⟩, ROW_c (fun c y c1 c2 => m2.2.1 c y (by omega)) s.2.2.1, s.2.2.2.1⟩, fun v' M2 hM2 => ?_⟩
      obtain ⟨f1, f2, -, f4⟩ := hM2.2 (by rw [hk3]; exact hr)
      have f4 := f4 hck
      unfold ANS at hA
      unfold RAN at f4
      cases ho : objE (wQ M (M 7 (r - 1))).2 13 [20] r [] ([], 0, []) with
      | inl x =>
        rw [ho] at hA f4
        exact ⟨by rw [hA.1, f4.1], fin v' M2 f1 f2 (emp M2 (by rw [f1 81 4 (by decide)]; exact hA.2.1) (by rw [f1 83 4 (by decide)]; exact hA.2.2) f4.2.1 f4.2.2)⟩
      | inr ws =>
        rw [ho] at hA f4
        obtain ⟨hA1, ⟨a1, a2, a3⟩, ⟨b1, b2⟩, c1, ⟨d1, d2, d3⟩, e1, e2, g3⟩ := hA
        obtain ⟨hB1, ⟨a1', a2', a3'⟩, ⟨b1', b2'⟩, ⟨c1', c2'⟩, d1'⟩ := f4
        refine ⟨by rw [hA1, hB1], fin v' M2 f1 f2 ⟨ws.2.1, ws.2.2.2, ⟨by rw [f1 81 4 (by decide)]; exact a1, arL_eq (fun y => f1 87 y (by omega)) a2, by omega⟩, ⟨by rw [f1 83 4 (by decide)]; exact e1, by omega, fun k hk => ?_⟩, ⟨a1', a2'⟩, c1', d1'⟩⟩
        rw [f1 85 _ (by omega)]
        exact ⟨(g3 k hk).1, arL_eq (fun y => f1 86 y (by omega)) (g3 k hk).2.2⟩
    · refine ⟨0, hRF, fun _ w => absurd w hck, fun v' M2 hM2 => ?_⟩
      obtain ⟨f1, f2, f3, -⟩ := hM2.2 (by rw [hk3]; exact hr)
      obtain ⟨g1, g2, g3⟩ := f3 hck
      obtain ⟨hv, hM⟩ := hP2.1 hck
      refine ⟨by rw [hv, g1], fin v' M2 f1 f2 (emp M2 ?_ ?_ g2 g3)⟩
      · rw [f1 81 4 (by decide), hM, up_nc (by decide), up_nc (by decide), up_eq]
      · rw [f1 83 4 (by decide), hM, up_eq]
  · obtain ⟨hv, hM⟩ := hP.1 hr
    refine ⟨0, by rw [hM]; exact t0, fun w => absurd (by rw [hM, e3] at w; exact w) hr, fun v' M2 hM2 => ?_⟩
    obtain ⟨g1, g2⟩ := hM2.1 (by rw [hM, e3]; exact hr)
    rw [hv, g1, g2, hM]
    exact ⟨rfl, h⟩
theorem O_code {M : Mem} (h : REL M) (i : Int) : (0 ≤ M 81 4 ∧ M 81 4 ≤ 120) ∧ (0 ≤ M 88 31 ∧ M 88 31 ≤ 130) ∧ (if 0 ≤ i ∧ i ≤ M 81 4 - 1 then M 87 i else -1) = (if 0 ≤ i ∧ i ≤ M 88 31 - 1 then M 114 i else -1) := by
  obtain ⟨cs, L, ⟨a1, a2, a3⟩, -, ⟨b1, b2⟩, -⟩ := h.2.2.2
  refine ⟨by omega, by omega, ?_⟩
  rw [a1, b1]
  by_cases q : 0 ≤ i ∧ i ≤ (cs.length : Int) - 1
  · rw [if_pos q, if_pos q]
    have h1 := a2 i.toNat (by omega)
    have h2 := b2 i.toNat (by omega)
    rw [show (0 : Int) + (i.toNat : Int) = i by omega] at h1 h2
    rw [h1, h2]
  · rw [if_neg q, if_neg q]
theorem O_missing {M : Mem} (h : REL M) (k i : Int) : PC M ∧ (0 ≤ M 88 33 ∧ M 88 33 ≤ 130) ∧ (∀ k : Int, 0 ≤ k → k < M 88 33 → (if k = 0 then 0 else M 115 (k - 1)) ≤ M 115 k ∧ 0 ≤ (if k = 0 then 0 else M 115 (k - 1)) ∧ M 115 k ≤ 6000) ∧ (if (0 ≤ k ∧ k ≤ M 83 4 - 1) ∧ 0 ≤ i ∧ i ≤ M 85 k - 1 then M 86 (k * 26 + i) else -1) = (if ¬ (0 ≤ k ∧ k ≤ M 88 33 - 1) ∨ i < 0 then -1 else if i < M 115 k - (if k = 0 then 0 else M 115 (k - 1)) then M 116 ((if k = 0 then 0 else M 115 (k - 1)) + i) else -1) := by
  obtain ⟨cs, L, -, ⟨a1, a2, a3⟩, -, b1, b2, b3⟩ := h.2.2.2
  have off : ∀ j : Nat, j < L.length → (if (j : Int) = 0 then 0 else M 115 ((j : Int) - 1)) = offP (L.take j) ∧ M 115 (j : Int) = offP (L.take j) + ((L.getD j []).length : Int) := fun j hj => by
    refine ⟨?_, by rw [(b3 j hj).1, offP_take hj]⟩
    cases j with
    | zero => exact if_pos (show ((0 : Nat) : Int) = 0 from rfl)
    | succ j =>
      rw [if_neg (by omega), show ((j + 1 : Nat) : Int) - 1 = (j : Int) by omega]
      exact (b3 j (by omega)).1
  have hlen : ∀ j : Nat, j < L.length → (L.getD j []).length ≤ 26 := fun j hj => by
    refine b2 _ ?_
    rw [List.getD_eq_getElem?_getD, List.getElem?_eq_getElem hj]
    exact List.getElem_mem hj
  have hoff : ∀ j : Nat, j ≤ L.length → 0 ≤ offP (L.take j) ∧ offP (L.take j) ≤ 26 * (j : Int) := fun j hj => by
    have := offP_le (L.take j) (fun p hp => b2 p (List.mem_of_mem_take hp))
    rw [List.length_take] at this
    omega
  refine ⟨⟨by omega, by omega, fun k h1 h2 => ?_⟩, by omega, fun k h1 h2 => ?_, ?_⟩
  · obtain ⟨j, rfl⟩ : ∃ j : Nat, k = (j : Int) := ⟨k.toNat, by omega⟩
    have hj : j < L.length := by omega
    rw [(a3 j hj).1]
    have := hlen j hj
    omega
  · obtain ⟨j, rfl⟩ : ∃ j : Nat, k = (j : Int) := ⟨k.toNat, by omega⟩
    have hj : j < L.length := by omega
    obtain ⟨o1, o2⟩ := off j hj
    have h3 := hoff j (by omega)
    have h4 := hlen j hj
    rw [o1, o2]
    omega
  · rw [a1, b1]
    by_cases q : 0 ≤ k ∧ k ≤ (L.length : Int) - 1
    · obtain ⟨j, rfl⟩ : ∃ j : Nat, k = (j : Int) := ⟨k.toNat, by omega⟩
      have hj : j < L.length := by omega
      obtain ⟨o1, o2⟩ := off j hj
      rw [(a3 j hj).1, o1, o2]
      by_cases q2 : i < 0
      · rw [if_neg (by omega), if_pos (by omega)]
      · rw [if_neg (c := ¬ (0 ≤ (j : Int) ∧ (j : Int) ≤ (L.length : Int) - 1) ∨ i < 0) (by omega)]
        by_cases q3 : i < ((L.getD j []).length : Int)
        · rw [if_pos ⟨q, by omega⟩, if_pos (by omega)]
          have h1 := (a3 j hj).2 i.toNat (by omega)
          have h2 := (b3 j hj).2 i.toNat (by omega)
          rw [show (i.toNat : Int) = i by omega] at h1 h2
          rw [h1, h2]
        · rw [if_neg (by omega), if_neg (by omega)]
    · rw [if_neg (by omega), if_pos (by omega)]
theorem O_count {M : Mem} (h : REL M) (i : Int) : (if i = 0 then M 1 4 else if i = 1 then M 6 4 else if i = 2 then M 81 4 else if i = 3 then M 83 4 else if 4 ≤ i ∧ i ≤ 7 then M 12 (i - 4) else -1) = (if i = 0 then M 88 0 else if i = 1 then M 88 3 else if i = 2 then M 88 31 else if i = 3 then M 88 33 else if 4 ≤ i ∧ i ≤ 7 then M 95 (i - 4) else -1) := by
  obtain ⟨s, ⟨t0, t5⟩, u, cs, L, ⟨a1, -⟩, ⟨c1, -⟩, ⟨b1, -⟩, d1, -⟩ := h
  rw [t0.1.2.2.2.2.1, t0.2.2.2.2.2, a1, b1, c1, d1, t0.1.1 (i - 4)]
