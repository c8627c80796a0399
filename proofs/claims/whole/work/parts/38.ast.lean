theorem arL_eq {M M' : Mem} {c o : Int} {L : List Int} (h : ∀ y : Int, M' c y = M c y) (q : arL M c o L) : arL M' c o L := fun k hk => by rw [h]; exact q k hk
theorem arL_snoc {M : Mem} {c o v : Int} {L : List Int} (q : arL M c o L) : arL (up M c (o + (L.length : Int)) v) c o (L ++ [v]) := by
  intro k hk
  simp only [List.length_append, List.length_cons, List.length_nil] at hk
  by_cases e : k = L.length
  · subst e
    rw [up_eq]
    simp
  · rw [up_nk (by omega), q k (by omega)]
    simp only [List.getD_eq_getElem?_getD]
    rw [List.getElem?_append_left (by omega)]
theorem arL_left {M : Mem} {c o : Int} {L L2 : List Int} (q : arL M c o (L ++ L2)) : arL M c o L := by
  intro k hk
  rw [q k (by rw [List.length_append]; omega)]
  simp only [List.getD_eq_getElem?_getD]
  rw [List.getElem?_append_left hk]
/-- a code is said -/
theorem ASt_say {M : Mem} {s : SA} {here : List Int} (h : ASt M s here) (c : Int) : (∃ s1, sayE c s = .inr s1 ∧ ASt (adC M c) s1 here ∧ s1.2.1 = s.2.1 + 1 ∧ s1.2.2 = s.2.2) ∨ (sayE c s = .inl (-5) ∧ adC M c = up M 81 6 (-5)) := by
  obtain ⟨⟨a1, a2, a3⟩, ⟨b1, b2⟩, c1, ⟨d1, d2, d3⟩, e1, e2, e3⟩ := h
  have hA : adC M c = if 120 ≤ s.2.1 then up M 81 6 (-5) else up (up (up M 81 5 (s.2.1 + 1)) 87 (M 81 4) c) 81 4 (M 81 4 + 1) := by
    unfold adC
    rw [if_neg (c := ¬ M 81 6 = 0) (by omega), b1]
  rw [hA]
  unfold sayE
  by_cases q : 120 ≤ s.2.1
  · rw [if_pos q, if_pos q]
    exact Or.inr ⟨rfl, rfl⟩
  · rw [if_neg q, if_neg q]
    refine Or.inl ⟨_, rfl, ⟨⟨?_, ?_, ?_⟩, ⟨?_, ?_⟩, ?_, ⟨?_, ?_, d3⟩, ?_, ?_, fun k hk => ?_⟩, rfl, rfl⟩
    · rw [up_eq, a1]; simp
    · have := arL_snoc (v := c) a2
      rw [Int.zero_add, ← a1] at this
      exact arL_eq (fun y => by rw [up_nc (by decide)]; unfold up; repeat (first | rfl | omega | split)) this
    · simp; omega
    · rw [up_nk (by decide), up_nc (by decide), up_eq]
    · show s.2.1 + 1 ≤ 120
      omega
    · rw [up_nk (by decide), up_nc (by decide), up_nk (by decide)]; exact c1
    · rw [up_nc (by decide), up_nc (by decide), up_nc (by decide)]; exact d1
    · exact arL_eq (fun y => by rw [up_nc (by decide), up_nc (by decide), up_nc (by decide)]) d2
    · rw [up_nc (by decide), up_nc (by decide), up_nc (by decide)]; exact e1
    · show 2 * (s.2.2.length : Int) ≤ s.2.1 + 1
      omega
    · rw [up_nc (by decide), up_nc (by decide), up_nc (by decide)]
      obtain ⟨f1, f2, f3⟩ := e3 k hk
      exact ⟨f1, f2, arL_eq (fun y => by rw [up_nc (by decide), up_nc (by decide), up_nc (by decide)]) f3⟩
/-- the work goes into a part of the place, and out again -/
theorem ASt_in {M : Mem} {s : SA} {here : List Int} (h : ASt M s here) (p : Int) (hl : here.length < 26) : ASt (goI M p) s (here ++ [p]) := by
  obtain ⟨⟨a1, a2, a3⟩, ⟨b1, b2⟩, c1, ⟨d1, d2, d3⟩, e1, e2, e3⟩ := h
  unfold goI
  rw [if_pos (by omega)]
  refine ⟨⟨?_, ?_, a3⟩, ⟨?_, b2⟩, ?_, ⟨?_, ?_, ?_⟩, ?_, e2, fun k hk => ?_⟩
  · rw [up_nc (by decide), up_nc (by decide)]; exact a1
  · exact arL_eq (fun y => by rw [up_nc (by decide), up_nc (by decide)]) a2
  · rw [up_nc (by decide), up_nc (by decide)]; exact b1
  · rw [up_nc (by decide), up_nc (by decide)]; exact c1
  · rw [up_eq, d1]; simp
  · have := arL_snoc (v := p) d2
    rw [Int.zero_add, ← d1] at this
    exact arL_eq (fun y => by rw [up_nc (by decide)]) this
  · simp; omega
  · rw [up_nk (by decide), up_nc (by decide)]; exact e1
  · rw [up_nc (by decide), up_nc (by decide)]
    obtain ⟨f1, f2, f3⟩ := e3 k hk
    exact ⟨f1, f2, arL_eq (fun y => by rw [up_nc (by decide), up_nc (by decide)]) f3⟩
theorem ASt_out {M : Mem} {s : SA} {here : List Int} {p : Int} (h : ASt M s (here ++ [p])) : ASt (goO M) s here := by
  obtain ⟨⟨a1, a2, a3⟩, ⟨b1, b2⟩, c1, ⟨d1, d2, d3⟩, e1, e2, e3⟩ := h
  simp only [List.length_append, List.length_cons, List.length_nil] at d1 d3
  unfold goO
  refine ⟨⟨?_, ?_, a3⟩, ⟨?_, b2⟩, ?_, ⟨?_, ?_, ?_⟩, ?_, e2, fun k hk => ?_⟩
  · rw [up_nc (by decide)]; exact a1
  · exact arL_eq (fun y => by rw [up_nc (by decide)]) a2
  · rw [up_nc (by decide)]; exact b1
  · rw [up_nc (by decide)]; exact c1
  · rw [up_eq]; split <;> omega
  · exact arL_eq (fun y => by rw [up_nc (by decide)]) (arL_left d2)
  · omega
  · rw [up_nk (by decide)]; exact e1
  · rw [up_nc (by decide)]
    obtain ⟨f1, f2, f3⟩ := e3 k hk
    exact ⟨f1, f2, arL_eq (fun y => by rw [up_nc (by decide)]) f3⟩
/-- a place is noted -/
theorem ASt_note {M : Mem} {s : SA} {here : List Int} (h : ASt M s here) (hm : 2 * ((s.2.2.length : Int) + 1) ≤ s.2.1) : ASt (ntH M) (s.1, s.2.1, s.2.2 ++ [here]) here := by
  obtain ⟨⟨a1, a2, a3⟩, ⟨b1, b2⟩, c1, ⟨d1, d2, d3⟩, e1, e2, e3⟩ := h
  unfold ntH
  rw [if_pos (by omega)]
  have n : ∀ c y : Int, c ≠ 83 → c ≠ 85 → c ≠ 86 → up (up (cpy M 84 0 86 (M 83 4 * 26) (M 83 3)) 85 (M 83 4) (M 83 3)) 83 4 (M 83 4 + 1) c y = M c y := fun c y h1 h2 h3 => by rw [up_nc h1, up_nc h2, cpy_nc h3]
  have n86 : ∀ y : Int, up (up (cpy M 84 0 86 (M 83 4 * 26) (M 83 3)) 85 (M 83 4) (M 83 3)) 83 4 (M 83 4 + 1) 86 y = if M 83 4 * 26 ≤ y ∧ y < M 83 4 * 26 + M 83 3 then M 84 (0 + (y - M 83 4 * 26)) else M 86 y := fun y => by
    rw [up_nc (by decide), up_nc (by decide)]
    unfold cpy
    by_cases z : M 83 4 * 26 ≤ y ∧ y < M 83 4 * 26 + M 83 3
    · rw [if_pos ⟨rfl, z⟩, if_pos z]
    · rw [if_neg (fun w => z w.2), if_neg z]
  refine ⟨⟨?_, ?_, a3⟩, ⟨?_, b2⟩, ?_, ⟨?_, ?_, d3⟩, ?_, ?_, fun k hk => ?_⟩
  · rw [n _ _ (by decide) (by decide) (by decide)]; exact a1
  · exact arL_eq (fun y => n _ _ (by decide) (by decide) (by decide)) a2
  · rw [n _ _ (by decide) (by decide) (by decide)]; exact b1
  · rw [n _ _ (by decide) (by decide) (by decide)]; exact c1
  · rw [up_nk (by decide), up_nc (by decide), cpy_nc (by decide)]; exact d1
  · exact arL_eq (fun y => n _ _ (by decide) (by decide) (by decide)) d2
  · rw [up_eq, e1]; simp
  · simp only [List.length_append, List.length_cons, List.length_nil]; omega
  · simp only [List.length_append, List.length_cons, List.length_nil] at hk
    rw [up_nc (by decide)]
    by_cases e : k = s.2.2.length
    · have hg : (s.2.2 ++ [here]).getD k [] = here := by rw [e]; simp
      rw [hg]
      refine ⟨by rw [e, ← e1, up_eq, d1], d3, fun i hi => ?_⟩
      rw [n86, if_pos (by omega), show 0 + ((k : Int) * 26 + (i : Int) - M 83 4 * 26) = 0 + (i : Int) by omega]
      exact d2 i hi
    · obtain ⟨f1, f2, f3⟩ := e3 k (by omega)
      have hg : (s.2.2 ++ [here]).getD k [] = s.2.2.getD k [] := by
        simp only [List.getD_eq_getElem?_getD]
        rw [List.getElem?_append_left (by omega)]
      rw [hg]
      refine ⟨by rw [up_nk (by omega), cpy_nc (by decide)]; exact f1, f2, fun i hi => ?_⟩
      rw [n86, if_neg (by omega)]
      exact f3 i hi
