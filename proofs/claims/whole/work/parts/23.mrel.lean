-- ===== the reference's tables against E
def MT (E M : Mem) : Prop := (∀ i : Int, M 95 i = E 12 i) ∧ (∀ i : Int, M 96 i = E 13 i) ∧ (∀ i : Int, M 97 i = E 14 i) ∧ (∀ i : Int, M 98 i = E 15 i) ∧ M 88 0 = E 1 4 ∧ (∀ t : Int, M 89 t = E 2 t) ∧ ∀ t f : Int, 0 ≤ t → t ≤ 4 → 0 ≤ f → f ≤ 3 → M 90 (12 * t + 3 * f) = E 3 (t * 4 + f) ∧ M 90 (12 * t + 3 * f + 1) = E 4 (t * 4 + f) ∧ M 90 (12 * t + 3 * f + 2) = E 5 (t * 4 + f)
/-- the schema: what was declared is within its bounds -/
def SCH (E : Mem) : Prop := SC E ∧ (∀ t f : Int, hasF E t f → (0 ≤ E 3 (t * 4 + f) ∧ E 3 (t * 4 + f) ≤ 2) ∧ (0 ≤ E 4 (t * 4 + f) ∧ E 4 (t * 4 + f) ≤ 5) ∧ (E 5 (t * 4 + f) = 0 ∨ E 5 (t * 4 + f) = 1)) ∧ ∀ t : Int, E 1 4 ≤ t → E 2 t = 0
theorem kO_in {E : Mem} {t f : Int} (h : ¬ kO E t f = -1) : hasF E t f ∧ kO E t f = E 3 (t * 4 + f) := by
  unfold kO at h ⊢
  split at h
  · rename_i q
    exact ⟨q, by rw [if_pos q]⟩
  · exact absurd rfl h
theorem kO_of {E : Mem} {t f : Int} (h : hasF E t f) : kO E t f = E 3 (t * 4 + f) := by unfold kO; rw [if_pos h]
theorem kO_no {E : Mem} {t f : Int} (h : ¬ hasF E t f) : kO E t f = -1 := by unfold kO; rw [if_neg h]
theorem tO_rg {E : Mem} (hS : SCH E) (t f : Int) : 0 ≤ tO E t f ∧ tO E t f ≤ 5 := by
  unfold tO
  split
  · rename_i h; exact (hS.2.1 t f h).2.1
  · decide
theorem fRm_iff {E M : Mem} {t i : Int} (hM : MT E M) (hS : SCH E) (ht : 0 ≤ t ∧ t ≤ 5) (hb : 0 ≤ E 15 i ∧ E 15 i ≤ 3) : fRm M t i = if (E 13 i = 0 ∧ kO E t (E 15 i) = 0) ∨ (¬ E 13 i = 0 ∧ (kO E t (E 15 i) = 1 ∨ kO E t (E 15 i) = 2)) then 1 else 0 := by
  obtain ⟨m1, m2, m3, m4, m5, m6, m7⟩ := hM
  unfold fRm
  rw [m6, m4, m2]
  have h5 := hS.1.2.1
  by_cases h : hasF E t (E 15 i)
  · have hk := hS.2.1 t (E 15 i) h
    have e := (m7 t (E 15 i) ht.1 (by omega) hb.1 hb.2).1
    rw [kO_of h, if_neg (by omega), e]
    repeat (first | rfl | omega | split)
  · rw [kO_no h]
    have h0 := hS.2.2 t
    by_cases h6 : t = 5 ∨ E 2 t ≤ E 15 i
    · rw [if_pos h6, if_neg (by omega)]
    · exfalso
      apply h
      refine ⟨⟨ht.1, ?_⟩, hb.1, by omega⟩
      rcases Int.lt_or_le t (E 1 4) with q | q
      · exact q
      · have := h0 q
        omega
theorem mRt_iff {E M : Mem} {t i : Int} {u : Int → Int} (hM : MT E M) (hS : SCH E) (ht : 0 ≤ t ∧ t ≤ 5) (hk : tokP (E 13 i) (E 14 i) (E 15 i)) (hu : ∀ j : Int, 1 ≤ j → j ≤ 3 → M 101 j = u j) : mRt M t i = 0 ↔ ¬ rgtP E t i u := by
  have hM' := hM
  obtain ⟨m1, m2, m3, m4, m5, m6, m7⟩ := hM
  have e1 : M 96 = E 13 := funext m2
  have e2 : M 95 = E 12 := funext m1
  unfold mRt
  rw [e1, e2, m3, m5]
  by_cases h0 : E 13 i = 0 ∨ E 13 i = 1
  · rw [if_pos h0, fRm_iff hM' hS ht (by omega)]
    constructor
    · intro h hr
      have r1 := hr.1
      have r2 := hr.2.1
      split at h <;> omega
    · intro h
      split
      · rename_i q
        exfalso
        apply h
        exact ⟨fun _ => by omega, fun _ => by omega, fun _ => by omega, fun _ => by omega⟩
      · rfl
  · rw [if_neg h0]
    by_cases h3 : E 13 i = 3
    · rw [if_pos h3]
      constructor
      · intro h hr
        have r3 := hr.2.2.1 h3
        split at h <;> omega
      · intro h
        split
        · rename_i q
          exfalso
          apply h
          exact ⟨fun _ => by omega, fun _ => by omega, fun _ => ⟨by omega, q.2⟩, fun _ => by omega⟩
        · rfl
    · rw [if_neg h3]
      by_cases h5 : E 13 i = 5
      · rw [if_pos h5]
        have hu' := hu (E 14 i) (by omega) (by omega)
        constructor
        · intro h hr
          have r5 := hr.2.2.2 h5
          split at h <;> omega
        · intro h
          split
          · rename_i q
            exfalso
            apply h
            have h01 := gdF_01 (E 13) (E 12 (E 14 i)).toNat (16 * E 14 i) 1
            have hg : gd (E 13) (E 12) (E 14 i) = 1 := by
              have := q.1
              unfold gd at this ⊢
              omega
            exact ⟨fun _ => by omega, fun _ => by omega, fun _ => by omega, fun _ => ⟨hg, by rw [← hu']; exact q.2⟩⟩
          · rfl
      · rw [if_neg h5]
        constructor
        · intro h; omega
        · intro h
          exfalso
          apply h
          exact ⟨fun _ => by omega, fun _ => by omega, fun _ => by omega, fun _ => by omega⟩
/-- the reference's open SETS stand in its arrays -/
def arS (M : Mem) : List Fr → Prop
  | [] => True
  | a :: st => M 99 st.length = a.1 ∧ M 100 st.length = a.2.1 ∧ arS M st
theorem arS_eq {M M' : Mem} : ∀ (st : List Fr), (∀ j : Int, 0 ≤ j → j < st.length → M' 99 j = M 99 j ∧ M' 100 j = M 100 j) → arS M st → arS M' st
  | [], _, _ => trivial
  | a :: st, h, ⟨h1, h2, h3⟩ => by
    have e := h st.length (by omega) (by simp only [List.length_cons]; omega)
    exact ⟨by rw [e.1]; exact h1, by rw [e.2]; exact h2, arS_eq st (fun j b1 b2 => h j b1 (by simp only [List.length_cons]; omega)) h3⟩
theorem arS_en {M : Mem} {st : List Fr} {t b k : Int} (hz : M 88 13 = st.length) (h : arS M st) : arS (enM M t b) ((t, b, k) :: st) := by
  have e99 : ∀ j : Int, enM M t b 99 j = if j = M 88 13 then t else M 99 j := fun j => by
    unfold enM
    rw [up_nc (by decide), up_nc (by decide)]
    unfold up
    by_cases q : j = M 88 13
    · rw [if_pos ⟨rfl, q⟩, if_pos q]
    · rw [if_neg (fun z => q z.2), if_neg q]
  have e100 : ∀ j : Int, enM M t b 100 j = if j = M 88 13 then b else M 100 j := fun j => by
    unfold enM
    rw [up_nc (by decide)]
    unfold up
    by_cases q : j = M 88 13
    · rw [if_pos ⟨rfl, q⟩, if_pos q]
    · rw [if_neg (fun z => q z.2), if_neg q, if_neg (by omega)]
  refine ⟨by rw [e99, if_pos hz.symm], by rw [e100, if_pos hz.symm], arS_eq st (fun j b1 b2 => ?_) h⟩
  rw [e99, e100, if_neg (by omega), if_neg (by omega)]
  exact ⟨rfl, rfl⟩
theorem enM_z {M : Mem} {t b : Int} : enM M t b 88 13 = M 88 13 + 1 := by unfold enM; rw [up_eq]
theorem th_step {E M : Mem} {a : Fr} {st : List Fr} {k i : Int} {u : Int → Int} (hM : MT E M) (hS : SCH E) (har : arS M (a :: st)) (hz : M 88 13 = ((a :: st).length : Nat)) (hi : 0 ≤ i ∧ i ≤ 63) (hk : tokP (E 13 i) (E 14 i) (E 15 i)) (hr : rgtP E a.1 i u) (hrg : ∀ x ∈ a :: st, 0 ≤ x.1 ∧ x.1 ≤ 5) (hu : ∀ j : Int, 1 ≤ j → j ≤ 3 → M 101 j = u j) :
    arS (thM M i) (nxS E k i (a :: st)) ∧ thM M i 88 13 = ((nxS E k i (a :: st)).length : Nat) ∧ thI M i = nxI E i (a :: st) ∧ (∀ x ∈ nxS E k i (a :: st), 0 ≤ x.1 ∧ x.1 ≤ 5) ∧ (∀ j : Int, 1 ≤ j → j ≤ 3 → thM M i 101 j = nxU E i (a :: st) u j) ∧ ∀ c j : Int, c ≠ 99 → c ≠ 100 → c ≠ 101 → (c ≠ 88 ∨ j ≠ 13) → thM M i c j = M c j := by
  obtain ⟨m1, m2, m3, m4, m5, m6, m7⟩ := hM
  obtain ⟨h1, h2, h3⟩ := har
  have hz' : M 88 13 = (st.length : Int) + 1 := by rw [hz]; simp
  have eT : M 99 (M 88 13 - 1) = a.1 := by rw [hz', show (st.length : Int) + 1 - 1 = st.length by omega]; exact h1
  have eB : M 100 (M 88 13 - 1) = a.2.1 := by rw [hz', show (st.length : Int) + 1 - 1 = st.length by omega]; exact h2
  have har' : arS M (a :: st) := ⟨h1, h2, h3⟩
  have ha := hrg a List.mem_cons_self
  have eI : thI M i = nxI E i (a :: st) := by
    unfold thI nxI
    rw [m2, m3, eB]
    rfl
  have eN : ∀ t b : Int, ∀ c j : Int, c ≠ 99 → c ≠ 100 → c ≠ 101 → (c ≠ 88 ∨ j ≠ 13) → enM M t b c j = M c j := fun t b c j g1 g2 _ g3 => enM_n g1 g2 g3
  have push : ∀ t b : Int, (0 ≤ t ∧ t ≤ 5) → arS (enM M t b) ((t, b, k) :: a :: st) ∧ enM M t b 88 13 = (((t, b, k) :: a :: st).length : Nat) ∧ (∀ x ∈ (t, b, k) :: a :: st, 0 ≤ x.1 ∧ x.1 ≤ 5) ∧ ∀ j : Int, 1 ≤ j → j ≤ 3 → enM M t b 101 j = u j := by
    intro t b htb
    refine ⟨arS_en hz har', by rw [enM_z, hz]; simp, fun x hx => ?_, fun j j1 j2 => by rw [enM_n (by decide) (by decide) (Or.inl (by decide))]; exact hu j j1 j2⟩
    rcases List.mem_cons.mp hx with rfl | hx
    · exact htb
    · exact hrg x hx
  by_cases o1 : E 13 i = 1
  · have eM : thM M i = enM M (tO E a.1 (E 15 i)) (-1) := by
      unfold thM
      rw [m2, if_pos o1, eT, m4]
      have hh := (kO_in (E := E) (t := a.1) (f := E 15 i) (by have := hr.2.1 o1; omega)).1
      have h5 := hS.1.2.1
      have e := (m7 a.1 (E 15 i) ha.1 (by omega) (by omega) (by omega)).2.1
      unfold tO
      rw [if_pos hh, e]
    have eS : nxS E k i (a :: st) = (tO E a.1 (E 15 i), -1, k) :: a :: st := by unfold nxS; rw [if_pos o1]; rfl
    have eU : nxU E i (a :: st) u = u := by unfold nxU; rw [if_neg (by omega), if_neg (by omega)]
    rw [eM, eS, eU]
    obtain ⟨p1, p2, p3, p4⟩ := push (tO E a.1 (E 15 i)) (-1) (tO_rg hS _ _)
    exact ⟨p1, p2, eI, p3, p4, eN _ _⟩
  by_cases o3 : E 13 i = 3
  · have eM : thM M i = enM M (E 14 i) (-1) := by unfold thM; rw [m2, if_neg o1, if_pos o3, m3]
    have eS : nxS E k i (a :: st) = (E 14 i, -1, k) :: a :: st := by unfold nxS; rw [if_neg o1, if_pos o3]
    have eU : nxU E i (a :: st) u = u := by unfold nxU; rw [if_neg (by omega), if_neg (by omega)]
    rw [eM, eS, eU]
    obtain ⟨p1, p2, p3, p4⟩ := push (E 14 i) (-1) (by omega)
    exact ⟨p1, p2, eI, p3, p4, eN _ _⟩
  by_cases o4 : E 13 i = 4
  · have eM : thM M i = enM M a.1 (-1) := by unfold thM; rw [m2, if_neg o1, if_neg o3, if_pos o4, eT]
    have eS : nxS E k i (a :: st) = (a.1, -1, k) :: a :: st := by unfold nxS; rw [if_neg o1, if_neg o3, if_pos o4]; rfl
    have eU : nxU E i (a :: st) u = u := by unfold nxU; rw [if_neg (by omega), if_neg (by omega)]
    rw [eM, eS, eU]
    obtain ⟨p1, p2, p3, p4⟩ := push a.1 (-1) ha
    exact ⟨p1, p2, eI, p3, p4, eN _ _⟩
  by_cases o5 : E 13 i = 5
  · have eM : thM M i = enM (up M 101 (E 14 i) 1) a.1 (i + 1) := by unfold thM; rw [m2, if_neg o1, if_neg o3, if_neg o4, if_pos o5, m3, eT]
    have eS : nxS E k i (a :: st) = (a.1, i + 1, k) :: a :: st := by unfold nxS; rw [if_neg o1, if_neg o3, if_neg o4, if_pos o5]; rfl
    have eU : nxU E i (a :: st) u = fun f => if f = E 14 i then 1 else u f := by unfold nxU; rw [if_pos o5]
    rw [eM, eS, eU]
    refine ⟨arS_en (by rw [up_nc (by decide)]; exact hz) (arS_eq (M := M) _ (fun j _ _ => ⟨up_nc (by decide), up_nc (by decide)⟩) har'), by rw [enM_z, up_nc (by decide), hz]; simp, eI, fun x hx => ?_, fun j j1 j2 => ?_, fun c j g1 g2 g3 g4 => by rw [enM_n g1 g2 g4, up_nc g3]⟩
    · rcases List.mem_cons.mp hx with rfl | hx
      · exact ha
      · exact hrg x hx
    · rw [enM_n (by decide) (by decide) (Or.inl (by decide))]
      unfold up
      dsimp only
      by_cases q : j = E 14 i
      · rw [if_pos ⟨rfl, q⟩, if_pos q]
      · rw [if_neg (fun z => q z.2), if_neg q]
        exact hu j j1 j2
  by_cases o6 : E 13 i = 6
  · have eS : nxS E k i (a :: st) = st := by unfold nxS; rw [if_neg o1, if_neg o3, if_neg o4, if_neg o5, if_pos o6]; rfl
    have hb : (topF (a :: st)).2.1 = a.2.1 := rfl
    rw [eS]
    by_cases b0 : 0 ≤ a.2.1
    · have eM : thM M i = up (up M 88 13 (M 88 13 - 1)) 101 (i / 16) 0 := by unfold thM; rw [m2, if_neg o1, if_neg o3, if_neg o4, if_neg o5, if_pos o6, eB, if_pos b0]
      have eU : nxU E i (a :: st) u = fun f => if f = i / 16 then 0 else u f := by unfold nxU; rw [if_neg o5, if_pos ⟨o6, by rw [hb]; exact b0⟩]
      rw [eM, eU]
      refine ⟨arS_eq (M := M) _ (fun j _ _ => ⟨by rw [up_nc (by decide), up_nc (by decide)], by rw [up_nc (by decide), up_nc (by decide)]⟩) h3, by rw [up_nc (by decide), up_eq, hz']; omega, eI, fun x hx => hrg x (List.mem_cons_of_mem _ hx), fun j j1 j2 => ?_, fun c j g1 g2 g3 g4 => by rw [up_nc g3]; exact g4.elim (fun h => up_nc h) (fun h => up_nk h)⟩
      unfold up
      dsimp only
      by_cases q : j = i / 16
      · rw [if_pos ⟨rfl, q⟩, if_pos q]
      · rw [if_neg (fun z => q z.2), if_neg q, if_neg (by omega)]
        exact hu j j1 j2
    · have eM : thM M i = up M 88 13 (M 88 13 - 1) := by unfold thM; rw [m2, if_neg o1, if_neg o3, if_neg o4, if_neg o5, if_pos o6, eB, if_neg b0]
      have eU : nxU E i (a :: st) u = u := by unfold nxU; rw [if_neg o5, if_neg (fun z => b0 (by have := z.2; rw [hb] at this; exact this))]
      rw [eM, eU]
      exact ⟨arS_eq (M := M) _ (fun j _ _ => ⟨up_nc (by decide), up_nc (by decide)⟩) h3, by rw [up_eq, hz']; omega, eI, fun x hx => hrg x (List.mem_cons_of_mem _ hx), fun j j1 j2 => by rw [up_nc (by decide)]; exact hu j j1 j2, fun c j g1 g2 g3 g4 => g4.elim (fun h => up_nc h) (fun h => up_nk h)⟩
  have eM : thM M i = M := by unfold thM; rw [m2, if_neg o1, if_neg o3, if_neg o4, if_neg o5, if_neg o6]
  have eS : nxS E k i (a :: st) = a :: st := by unfold nxS; rw [if_neg o1, if_neg o3, if_neg o4, if_neg o5, if_neg o6]
  have eU : nxU E i (a :: st) u = u := by unfold nxU; rw [if_neg o5, if_neg (fun z => o6 z.1)]
  rw [eM, eS, eU]
  exact ⟨har', hz, eI, hrg, hu, fun _ _ _ _ _ _ => rfl⟩
