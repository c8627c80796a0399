theorem O_set {M : Mem} (h : REL M) (i v : Int) : let M1 := if ¬ (0 ≤ i ∧ i ≤ 3) ∨ ¬ (0 ≤ v ∧ v ≤ 1) then M else up M 16 i v
    REL (if ¬ (0 ≤ i ∧ i ≤ 3) ∨ ¬ (0 ≤ v ∧ v ≤ 1) then M1 else up M1 94 i v) := by
  intro M1
  by_cases q : ¬ (0 ≤ i ∧ i ≤ 3) ∨ ¬ (0 ≤ v ∧ v ≤ 1)
  · rw [if_pos q, show M1 = M from if_pos q]; exact h
  · rw [if_neg q, show M1 = up M 16 i v from if_neg q]
    obtain ⟨s, ⟨⟨t1, t2, t3, t4⟩, t5⟩, u⟩ := h
    have k : ∀ c y : Int, c ≠ 16 → c ≠ 94 → up (up M 16 i v) 94 i v c y = M c y := fun c y h1 h2 => by rw [up_nc h2, up_nc h1]
    refine ⟨R1_c (fun c y q => k c y (by omega) (by omega)) s, ⟨⟨MT_c (fun c y q => k c y (by omega) (by omega)) t1, MB_c (fun c y q => k c y (by omega) (by omega)) t2, ⟨fun j => by rw [k 96 j (by decide) (by decide), k 13 j (by decide) (by decide)]; exact t3.1 j, fun j => by rw [k 97 j (by decide) (by decide), k 14 j (by decide) (by decide)]; exact t3.2.1 j, fun j => by rw [k 98 j (by decide) (by decide), k 15 j (by decide) (by decide)]; exact t3.2.2.1 j, fun j => ?_⟩, VR_c (fun c y q => k c y (by omega) (by omega)) t4⟩, fun r f h1 h2 h3 h4 => by rw [k 92 _ (by decide) (by decide)]; exact t5 r f (by rw [k 6 4 (by decide) (by decide)] at h1; exact h1) h2 h3 h4⟩, R3_c (fun c y q => k c y (by omega) (by omega)) u⟩
    by_cases z : j = i
    · rw [z, up_eq, up_nc (by decide), up_eq]
    · rw [up_nk z, up_nc (by decide), up_nc (by decide), up_nk z]; exact t3.2.2.2 j
theorem O_wipe {M : Mem} (h : REL M) (t : Int) : let M1 := if ¬ (0 ≤ t ∧ t ≤ 3) then M else up M 12 t 0
    (if ¬ (0 ≤ t ∧ t ≤ 3) then -1 else M 12 t) = (if ¬ (0 ≤ t ∧ t ≤ 3) then -1 else M1 95 t) ∧ REL (if ¬ (0 ≤ t ∧ t ≤ 3) then M1 else up M1 95 t 0) := by
  intro M1
  by_cases q : ¬ (0 ≤ t ∧ t ≤ 3)
  · rw [if_pos q, if_pos q, if_pos q, show M1 = M from if_pos q]; exact ⟨rfl, h⟩
  · rw [if_neg q, if_neg q, if_neg q, show M1 = up M 12 t 0 from if_neg q]
    obtain ⟨⟨s1, s2, s3, s4, s5, s6, s7⟩, ⟨⟨t1, t2, t3, t4⟩, t5⟩, u⟩ := h
    have k : ∀ c y : Int, c ≠ 12 → c ≠ 95 → up (up M 12 t 0) 95 t 0 c y = M c y := fun c y h1 h2 => by rw [up_nc h2, up_nc h1]
    have k12 : ∀ y : Int, up (up M 12 t 0) 95 t 0 12 y = if y = t then 0 else M 12 y := fun y => by
      rw [up_nc (by decide)]
      by_cases z : y = t
      · rw [if_pos z, z, up_eq]
      · rw [if_neg z, up_nk z]
    have k95 : ∀ y : Int, up (up M 12 t 0) 95 t 0 95 y = if y = t then 0 else M 95 y := fun y => by
      by_cases z : y = t
      · rw [if_pos z, z, up_eq]
      · rw [if_neg z, up_nk z, up_nc (by decide)]
    refine ⟨by rw [up_nc (by decide)]; exact (t1.1 t).symm, ?_⟩
    generalize up (up M 12 t 0) 95 t 0 = N at k k12 k95
    refine ⟨⟨SCH_c (fun c y c1 c2 => k c y (by omega) (by omega)) s1, ⟨⟨fun y => ?_, fun i i1 i2 => by rw [k 13 i (by decide) (by decide), k 14 i (by decide) (by decide), k 15 i (by decide) (by decide)]; exact s2.1.2 i i1 i2⟩, fun j hj => by rw [k 14 j (by decide) (by decide)]; exact s2.2 j (by rw [k 13 j (by decide) (by decide)] at hj; exact hj)⟩, ROW_c (fun c y c1 c2 => k c y (by omega) (by omega)) s3, LKT_c (fun c y c1 c2 => k c y (by omega) (by omega)) s4, by unfold RC; rw [k 6 4 (by decide) (by decide)]; exact s5, by rw [k 20 4 (by decide) (by decide)]; exact s6, by rw [k 20 10 (by decide) (by decide)]; exact s7⟩, ⟨⟨⟨fun y => ?_, fun j => by rw [k 96 j (by decide) (by decide), k 13 j (by decide) (by decide)]; exact t1.2.1 j, fun j => by rw [k 97 j (by decide) (by decide), k 14 j (by decide) (by decide)]; exact t1.2.2.1 j, fun j => by rw [k 98 j (by decide) (by decide), k 15 j (by decide) (by decide)]; exact t1.2.2.2.1 j, by rw [k 88 0 (by decide) (by decide), k 1 4 (by decide) (by decide)]; exact t1.2.2.2.2.1, fun y => by rw [k 89 y (by decide) (by decide), k 2 y (by decide) (by decide)]; exact t1.2.2.2.2.2.1 y, fun t' f h1 h2 h3 h4 => by rw [k 90 _ (by decide) (by decide), k 90 _ (by decide) (by decide), k 90 _ (by decide) (by decide), k 3 _ (by decide) (by decide), k 4 _ (by decide) (by decide), k 5 _ (by decide) (by decide)]; exact t1.2.2.2.2.2.2 t' f h1 h2 h3 h4⟩, ⟨by rw [k 88 0 (by decide) (by decide)]; exact t2.1, fun i => by rw [k 89 i (by decide) (by decide)]; exact t2.2.1 i, by rw [k 88 3 (by decide) (by decide)]; exact t2.2.2.1, fun i => by rw [k 91 i (by decide) (by decide)]; exact t2.2.2.2.1 i, fun i => by rw [k 92 i (by decide) (by decide)]; exact t2.2.2.2.2.1 i, fun i => ?_⟩, RT_c (fun c y q => k c y (by omega) (by omega)) t3, VR_c (fun c y q => k c y (by omega) (by omega)) t4⟩, fun r f h1 h2 h3 h4 => by rw [k 92 _ (by decide) (by decide)]; exact t5 r f (by rw [k 6 4 (by decide) (by decide)] at h1; exact h1) h2 h3 h4⟩, R3_c (fun c y q => k c y (by omega) (by omega)) u⟩
    · rw [k12]; split; decide; exact s2.1.1 y
    · rw [k95, k12]; split; rfl; exact t1.1 y
    · rw [k95]; split; decide; exact t2.2.2.2.2.2 i
theorem O_token {M : Mem} (h : REL M) (t o a b : Int) : let M1 := if ¬ (0 ≤ t ∧ t ≤ 3) ∨ ¬ tokP o a b then M else if 16 ≤ M 12 t then M else up (up (up (up M 13 (t * 16 + M 12 t) o) 14 (t * 16 + M 12 t) a) 15 (t * 16 + M 12 t) b) 12 t (M 12 t + 1)
    (if ¬ (0 ≤ t ∧ t ≤ 3) ∨ ¬ tokP o a b then -1 else if 16 ≤ M 12 t then -2 else M 12 t + 1) = (if ¬ (0 ≤ t ∧ t ≤ 3) ∨ ¬ tokP o a b then -1 else if M1 95 t = 16 then -2 else M1 95 t + 1) ∧ REL (if ¬ (0 ≤ t ∧ t ≤ 3) ∨ ¬ tokP o a b then M1 else if M1 95 t = 16 then M1 else up (up (up (up M1 96 (16 * t + M1 95 t) o) 97 (16 * t + M1 95 t) a) 98 (16 * t + M1 95 t) b) 95 t (M1 95 t + 1)) := by
  intro M1
  by_cases q : ¬ (0 ≤ t ∧ t ≤ 3) ∨ ¬ tokP o a b
  · rw [if_pos q, if_pos q, if_pos q, show M1 = M from if_pos q]; exact ⟨rfl, h⟩
  · obtain ⟨⟨s1, s2, s3, s4, s5, s6, s7⟩, ⟨⟨t1, t2, t3, t4⟩, t5⟩, u⟩ := id h
    have e95 : M 95 t = M 12 t := t1.1 t
    have hl := s2.1.1 t
    rw [if_neg q, if_neg q, if_neg q]
    by_cases q2 : 16 ≤ M 12 t
    · have hM : M1 = M := by show (if _ then M else if 16 ≤ M 12 t then M else _) = M; rw [if_neg q, if_pos q2]
      rw [hM, if_pos q2, if_pos (by omega), if_pos (by omega)]
      exact ⟨rfl, h⟩
    · have hM : M1 = up (up (up (up M 13 (t * 16 + M 12 t) o) 14 (t * 16 + M 12 t) a) 15 (t * 16 + M 12 t) b) 12 t (M 12 t + 1) := by show (if _ then M else if 16 ≤ M 12 t then M else _) = _; rw [if_neg q, if_neg q2]
      have e95' : M1 95 t = M 12 t := by rw [hM, up_nc (by decide), up_nc (by decide), up_nc (by decide), up_nc (by decide)]; exact e95
      rw [e95', if_neg q2, if_neg (by omega), if_neg (by omega)]
      refine ⟨rfl, ?_⟩
      have ht : 0 ≤ t ∧ t ≤ 3 := Classical.byContradiction (fun z => q (Or.inl z))
      have hk : tokP o a b := Classical.byContradiction (fun z => q (Or.inr z))
      rw [hM, show 16 * t + M 12 t = t * 16 + M 12 t by omega]
      have up1 : ∀ (N : Mem) (c i v y : Int), up N c i v c y = if y = i then v else N c y := fun N c i v y => by
        by_cases z : y = i
        · rw [if_pos z, z, up_eq]
        · rw [if_neg z, up_nk z]
      have k : ∀ c y : Int, ¬ (12 ≤ c ∧ c ≤ 15) → ¬ (95 ≤ c ∧ c ≤ 98) → up (up (up (up (up (up (up (up M 13 (t * 16 + M 12 t) o) 14 (t * 16 + M 12 t) a) 15 (t * 16 + M 12 t) b) 12 t (M 12 t + 1)) 96 (t * 16 + M 12 t) o) 97 (t * 16 + M 12 t) a) 98 (t * 16 + M 12 t) b) 95 t (M 12 t + 1) c y = M c y := fun c y h1 h2 => by rw [up_nc (by omega), up_nc (by omega), up_nc (by omega), up_nc (by omega), up_nc (by omega), up_nc (by omega), up_nc (by omega), up_nc (by omega)]
      have k12 : ∀ y : Int, up (up (up (up (up (up (up (up M 13 (t * 16 + M 12 t) o) 14 (t * 16 + M 12 t) a) 15 (t * 16 + M 12 t) b) 12 t (M 12 t + 1)) 96 (t * 16 + M 12 t) o) 97 (t * 16 + M 12 t) a) 98 (t * 16 + M 12 t) b) 95 t (M 12 t + 1) 12 y = if y = t then M 12 t + 1 else M 12 y := fun y => by
        rw [up_nc (by decide), up_nc (by decide), up_nc (by decide), up_nc (by decide), up1]
        split
        · rfl
        · rw [up_nc (by decide), up_nc (by decide), up_nc (by decide)]
      have k13 : ∀ y : Int, up (up (up (up (up (up (up (up M 13 (t * 16 + M 12 t) o) 14 (t * 16 + M 12 t) a) 15 (t * 16 + M 12 t) b) 12 t (M 12 t + 1)) 96 (t * 16 + M 12 t) o) 97 (t * 16 + M 12 t) a) 98 (t * 16 + M 12 t) b) 95 t (M 12 t + 1) 13 y = if y = t * 16 + M 12 t then o else M 13 y := fun y => by
        rw [up_nc (by decide), up_nc (by decide), up_nc (by decide), up_nc (by decide), up_nc (by decide), up_nc (by decide), up_nc (by decide), up1]
      have k14 : ∀ y : Int, up (up (up (up (up (up (up (up M 13 (t * 16 + M 12 t) o) 14 (t * 16 + M 12 t) a) 15 (t * 16 + M 12 t) b) 12 t (M 12 t + 1)) 96 (t * 16 + M 12 t) o) 97 (t * 16 + M 12 t) a) 98 (t * 16 + M 12 t) b) 95 t (M 12 t + 1) 14 y = if y = t * 16 + M 12 t then a else M 14 y := fun y => by
        rw [up_nc (by decide), up_nc (by decide), up_nc (by decide), up_nc (by decide), up_nc (by decide), up_nc (by decide), up1]
        split
        · rfl
        · rw [up_nc (by decide)]
      have k15 : ∀ y : Int, up (up (up (up (up (up (up (up M 13 (t * 16 + M 12 t) o) 14 (t * 16 + M 12 t) a) 15 (t * 16 + M 12 t) b) 12 t (M 12 t + 1)) 96 (t * 16 + M 12 t) o) 97 (t * 16 + M 12 t) a) 98 (t * 16 + M 12 t) b) 95 t (M 12 t + 1) 15 y = if y = t * 16 + M 12 t then b else M 15 y := fun y => by
        rw [up_nc (by decide), up_nc (by decide), up_nc (by decide), up_nc (by decide), up_nc (by decide), up1]
        split
        · rfl
        · rw [up_nc (by decide), up_nc (by decide)]
      have k95 : ∀ y : Int, up (up (up (up (up (up (up (up M 13 (t * 16 + M 12 t) o) 14 (t * 16 + M 12 t) a) 15 (t * 16 + M 12 t) b) 12 t (M 12 t + 1)) 96 (t * 16 + M 12 t) o) 97 (t * 16 + M 12 t) a) 98 (t * 16 + M 12 t) b) 95 t (M 12 t + 1) 95 y = if y = t then M 12 t + 1 else M 95 y := fun y => by
        rw [up1]
        split
        · rfl
        · rw [up_nc (by decide), up_nc (by decide), up_nc (by decide), up_nc (by decide), up_nc (by decide), up_nc (by decide), up_nc (by decide)]
      have k96 : ∀ y : Int, up (up (up (up (up (up (up (up M 13 (t * 16 + M 12 t) o) 14 (t * 16 + M 12 t) a) 15 (t * 16 + M 12 t) b) 12 t (M 12 t + 1)) 96 (t * 16 + M 12 t) o) 97 (t * 16 + M 12 t) a) 98 (t * 16 + M 12 t) b) 95 t (M 12 t + 1) 96 y = if y = t * 16 + M 12 t then o else M 96 y := fun y => by
        rw [up_nc (by decide), up_nc (by decide), up_nc (by decide), up1]
        split
        · rfl
        · rw [up_nc (by decide), up_nc (by decide), up_nc (by decide), up_nc (by decide)]
      have k97 : ∀ y : Int, up (up (up (up (up (up (up (up M 13 (t * 16 + M 12 t) o) 14 (t * 16 + M 12 t) a) 15 (t * 16 + M 12 t) b) 12 t (M 12 t + 1)) 96 (t * 16 + M 12 t) o) 97 (t * 16 + M 12 t) a) 98 (t * 16 + M 12 t) b) 95 t (M 12 t + 1) 97 y = if y = t * 16 + M 12 t then a else M 97 y := fun y => by
        rw [up_nc (by decide), up_nc (by decide), up1]
        split
        · rfl
        · rw [up_nc (by decide), up_nc (by decide), up_nc (by decide), up_nc (by decide), up_nc (by decide)]
      have k98 : ∀ y : Int, up (up (up (up (up (up (up (up M 13 (t * 16 + M 12 t) o) 14 (t * 16 + M 12 t) a) 15 (t * 16 + M 12 t) b) 12 t (M 12 t + 1)) 96 (t * 16 + M 12 t) o) 97 (t * 16 + M 12 t) a) 98 (t * 16 + M 12 t) b) 95 t (M 12 t + 1) 98 y = if y = t * 16 + M 12 t then b else M 98 y := fun y => by
        rw [up_nc (by decide), up1]
        split
        · rfl
        · rw [up_nc (by decide), up_nc (by decide), up_nc (by decide), up_nc (by decide), up_nc (by decide), up_nc (by decide)]
      generalize up (up (up (up (up (up (up (up M 13 (t * 16 + M 12 t) o) 14 (t * 16 + M 12 t) a) 15 (t * 16 + M 12 t) b) 12 t (M 12 t + 1)) 96 (t * 16 + M 12 t) o) 97 (t * 16 + M 12 t) a) 98 (t * 16 + M 12 t) b) 95 t (M 12 t + 1) = N at k k12 k13 k14 k15 k95 k96 k97 k98
      refine ⟨⟨SCH_c (fun c y c1 c2 => k c y (by omega) (by omega)) s1, ⟨⟨fun y => ?_, fun i i1 i2 => ?_⟩, fun j hj => ?_⟩, ROW_c (fun c y c1 c2 => k c y (by omega) (by omega)) s3, LKT_c (fun c y c1 c2 => k c y (by omega) (by omega)) s4, by unfold RC; rw [k 6 4 (by decide) (by decide)]; exact s5, by rw [k 20 4 (by decide) (by decide)]; exact s6, by rw [k 20 10 (by decide) (by decide)]; exact s7⟩, ⟨⟨⟨fun y => by rw [k95, k12]; split; rfl; exact t1.1 y, fun y => by rw [k96, k13]; split; rfl; exact t1.2.1 y, fun y => by rw [k97, k14]; split; rfl; exact t1.2.2.1 y, fun y => by rw [k98, k15]; split; rfl; exact t1.2.2.2.1 y, by rw [k 88 0 (by decide) (by decide), k 1 4 (by decide) (by decide)]; exact t1.2.2.2.2.1, fun y => by rw [k 89 y (by decide) (by decide), k 2 y (by decide) (by decide)]; exact t1.2.2.2.2.2.1 y, fun t' f h1 h2 h3 h4 => by rw [k 90 _ (by decide) (by decide), k 90 _ (by decide) (by decide), k 90 _ (by decide) (by decide), k 3 _ (by decide) (by decide), k 4 _ (by decide) (by decide), k 5 _ (by decide) (by decide)]; exact t1.2.2.2.2.2.2 t' f h1 h2 h3 h4⟩, ⟨by rw [k 88 0 (by decide) (by decide)]; exact t2.1, fun i => by rw [k 89 i (by decide) (by decide)]; exact t2.2.1 i, by rw [k 88 3 (by decide) (by decide)]; exact t2.2.2.1, fun i => by rw [k 91 i (by decide) (by decide)]; exact t2.2.2.2.1 i, fun i => by rw [k 92 i (by decide) (by decide)]; exact t2.2.2.2.2.1 i, fun i => ?_⟩, ⟨fun y => by rw [k96, k13]; split; rfl; exact t1.2.1 y, fun y => by rw [k97, k14]; split; rfl; exact t1.2.2.1 y, fun y => by rw [k98, k15]; split; rfl; exact t1.2.2.2.1 y, fun y => by rw [k 94 y (by decide) (by decide), k 16 y (by decide) (by decide)]; exact t3.2.2.2 y⟩, VR_c (fun c y q => k c y (by omega) (by omega)) t4⟩, fun r f h1 h2 h3 h4 => by rw [k 92 _ (by decide) (by decide)]; exact t5 r f (by rw [k 6 4 (by decide) (by decide)] at h1; exact h1) h2 h3 h4⟩, R3_c (fun c y q => k c y (by omega) (by omega)) u⟩
      · rw [k12]; split; omega; exact s2.1.1 y
      · rw [k13, k14, k15]
        by_cases z : i = t * 16 + M 12 t
        · rw [if_pos z, if_pos z, if_pos z]; exact hk
        · rw [if_neg z, if_neg z, if_neg z]; exact s2.1.2 i i1 i2
      · rw [k13] at hj
        rw [k14]
        by_cases z : j = t * 16 + M 12 t
        · rw [if_pos z] at hj ⊢; omega
        · rw [if_neg z] at hj ⊢; exact s2.2 j hj
      · rw [k95]; split; omega; exact t2.2.2.2.2.2 i
