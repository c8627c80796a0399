-- ===== CHECKING, as the document goes through the tokens: a row of steps. E: the class's cells (schema 1 .. 5, texts 12 .. 15)
abbrev Fr : Type := Int × Int × Int
/-- the open SETS, the innermost first: (expected type, where to go on behind it or -1, the step that opened it) -/
abbrev topF (st : List Fr) : Fr := st.headD (5, -1, 0)
def nxS (E : Mem) (k i : Int) (st : List Fr) : List Fr :=
  if E 13 i = 1 then (tO E (topF st).1 (E 15 i), -1, k) :: st
  else if E 13 i = 3 then (E 14 i, -1, k) :: st
  else if E 13 i = 4 then ((topF st).1, -1, k) :: st
  else if E 13 i = 5 then ((topF st).1, i + 1, k) :: st
  else if E 13 i = 6 then st.tail
  else st
def nxI (E : Mem) (i : Int) (st : List Fr) : Int :=
  if E 13 i = 5 then 16 * E 14 i else if E 13 i = 6 ∧ 0 ≤ (topF st).2.1 then (topF st).2.1 else i + 1
def nxU (E : Mem) (i : Int) (st : List Fr) (u : Int → Int) : Int → Int :=
  if E 13 i = 5 then (fun f => if f = E 14 i then 1 else u f) else if E 13 i = 6 ∧ 0 ≤ (topF st).2.1 then (fun f => if f = i / 16 then 0 else u f) else u
abbrev rgtP (E : Mem) (t i : Int) (u : Int → Int) : Prop := (E 13 i = 0 → kO E t (E 15 i) = 0) ∧ (E 13 i = 1 → kO E t (E 15 i) = 1 ∨ kO E t (E 15 i) = 2) ∧ (E 13 i = 3 → (0 ≤ E 14 i ∧ E 14 i < E 1 4) ∧ (t = E 14 i ∨ t = 5)) ∧ (E 13 i = 5 → gd (E 13) (E 12) (E 14 i) = 1 ∧ u (E 14 i) = 0)
/-- the place of the first WRONG token, -1 if there is none; f: how many tokens may still be gone through -/
def ckO (E : Mem) : Nat → Int → Int → List Fr → (Int → Int) → Int
  | _, _, _, [], _ => -1
  | 0, _, i, _ :: _, _ => i
  | f + 1, k, i, a :: st, u => if rgtP E a.1 i u then ckO E f (k + 1) (nxI E i (a :: st)) (nxS E k i (a :: st)) (nxU E i (a :: st) u) else i
/-- the texts: at most 16 tokens each, each token as it was taken -/
def TXT (E : Mem) : Prop := (∀ t : Int, 0 ≤ E 12 t ∧ E 12 t ≤ 16) ∧ ∀ i : Int, 0 ≤ i → i < 64 → tokP (E 13 i) (E 14 i) (E 15 i)
/-- where the going through stands: G has, for each text that is being gone through, the innermost first, its number and how many of its SETS are open -/
def gOK (E : Mem) : List (Int × Int) → Int → List Fr → Prop
  | [], _, st => st = []
  | (T, d) :: G, i, st => (0 ≤ T ∧ T ≤ 3) ∧ (1 ≤ d ∧ d ≤ 4) ∧ (16 * T ≤ i ∧ i < 16 * T + E 12 T) ∧ gdF (E 13) (16 * T + E 12 T - i).toNat i d = 1 ∧ ∃ (A : List Fr) (b : Fr) (R : List Fr), st = A ++ b :: R ∧ (A.length : Int) + 1 = d ∧ (∀ a ∈ A, a.2.1 = -1) ∧ ((G = [] ∧ b.2.1 = -1 ∧ R = []) ∨ (G ≠ [] ∧ 0 ≤ b.2.1 ∧ gOK E G b.2.1 R))
theorem gdF_0 {op : Int → Int} {k : Nat} {i : Int} (h : gdF op k i 0 = 1) : k = 0 := by
  cases k with
  | zero => rfl
  | succ k => unfold gdF at h; rw [if_pos rfl] at h; omega
theorem gdF_p {op : Int → Int} {k : Nat} {i d : Int} (hd : 1 ≤ d) (h : gdF op k i d = 1) : ∃ j : Nat, k = j + 1 := by
  cases k with
  | zero => unfold gdF at h; rw [if_neg (by omega)] at h; omega
  | succ k => exact ⟨k, rfl⟩
theorem gOK_ne {E : Mem} {T d i : Int} {G : List (Int × Int)} {st : List Fr} (h : gOK E ((T, d) :: G) i st) : st ≠ [] := by
  obtain ⟨-, -, -, -, A, b, R, rfl, -⟩ := h
  simp
/-- one token further -/
theorem gOK_step {E : Mem} (hX : TXT E) {T d i k : Int} {G : List (Int × Int)} {st : List Fr} {u : Int → Int} (h : gOK E ((T, d) :: G) i st) (hr : rgtP E (topF st).1 i u) :
    ∃ G' : List (Int × Int), gOK E G' (nxI E i st) (nxS E k i st) ∧ (G' = (T, d + 1) :: G ∧ opnP (E 13 i) ∨ G' = (T, d) :: G ∧ ¬ opnP (E 13 i) ∧ E 13 i ≠ 5 ∧ E 13 i ≠ 6 ∨ G' = (E 14 i, 1) :: (T, d) :: G ∧ E 13 i = 5 ∨ (G' = (T, d - 1) :: G ∧ 2 ≤ d ∨ G' = G ∧ d = 1) ∧ E 13 i = 6) := by
  obtain ⟨hT, hd, hi, hg, A, b, R, rfl, hA, hAm, hB⟩ := h
  obtain ⟨j, hj⟩ := gdF_p hd.1 hg
  rw [hj] at hg
  unfold gdF at hg
  rw [if_neg (by omega)] at hg
  have hk := hX.2 i (by omega) (by have := hX.1 T; omega)
  have hjn : (16 * T + E 12 T - (i + 1)).toNat = j := by omega
  by_cases h6 : E 13 i = 6
  · rw [if_pos h6] at hg
    cases A with
    | nil =>
      have hd1 : d = 1 := by simp at hA; omega
      subst hd1
      have hj0 := gdF_0 hg
      have eS : nxS E k i ([] ++ b :: R) = R := by
        unfold nxS
        rw [if_neg (by omega), if_neg (by omega), if_neg (by omega), if_neg (by omega), if_pos h6]
        rfl
      refine ⟨G, ?_, Or.inr (Or.inr (Or.inr ⟨Or.inr ⟨rfl, rfl⟩, h6⟩))⟩
      rw [eS]
      rcases hB with ⟨rfl, -, rfl⟩ | ⟨-, hb0, hB⟩
      · rfl
      · have eI : nxI E i ([] ++ b :: R) = b.2.1 := by
          unfold nxI
          rw [if_neg (by omega), if_pos ⟨h6, hb0⟩]
          rfl
        rw [eI]
        exact hB
    | cons a A =>
      simp only [List.length_cons] at hA
      have ha : a.2.1 = -1 := hAm a List.mem_cons_self
      have eS : nxS E k i (a :: A ++ b :: R) = A ++ b :: R := by
        unfold nxS
        rw [if_neg (by omega), if_neg (by omega), if_neg (by omega), if_neg (by omega), if_pos h6]
        rfl
      have eI : nxI E i (a :: A ++ b :: R) = i + 1 := by
        unfold nxI
        rw [if_neg (by omega), if_neg]
        rintro ⟨-, q⟩
        have : a.2.1 = (topF (a :: A ++ b :: R)).2.1 := rfl
        omega
      rw [eS, eI]
      obtain ⟨j2, hj2⟩ := gdF_p (show 1 ≤ d - 1 by omega) hg
      refine ⟨(T, d - 1) :: G, ⟨hT, by omega, by omega, by rw [hjn]; exact hg, A, b, R, rfl, by omega, fun x hx => hAm x (List.mem_cons_of_mem _ hx), hB⟩, Or.inr (Or.inr (Or.inr ⟨Or.inl ⟨rfl, by omega⟩, h6⟩))⟩
  · rw [if_neg h6] at hg
    by_cases ho : opnP (E 13 i)
    · rw [if_pos ho] at hg
      have hd4 : d ≠ 4 := fun q => by rw [if_pos q] at hg; omega
      rw [if_neg hd4] at hg
      obtain ⟨j2, hj2⟩ := gdF_p (show 1 ≤ d + 1 by omega) hg
      have eI : nxI E i (A ++ b :: R) = i + 1 := by
        unfold nxI
        rw [if_neg (by omega), if_neg (by omega)]
      have eS : ∃ x : Fr, nxS E k i (A ++ b :: R) = x :: (A ++ b :: R) ∧ x.2.1 = -1 := by
        unfold nxS
        rcases ho with q | q | q
        · rw [if_pos q]; exact ⟨_, rfl, rfl⟩
        · rw [if_neg (by omega), if_pos q]; exact ⟨_, rfl, rfl⟩
        · rw [if_neg (by omega), if_neg (by omega), if_pos q]; exact ⟨_, rfl, rfl⟩
      obtain ⟨x, eS, hx⟩ := eS
      rw [eS, eI]
      refine ⟨(T, d + 1) :: G, ⟨hT, by omega, by omega, by rw [hjn]; exact hg, x :: A, b, R, rfl, by simp only [List.length_cons]; omega, fun y hy => ?_, hB⟩, Or.inl ⟨rfl, ho⟩⟩
      rcases List.mem_cons.mp hy with rfl | hy
      · exact hx
      · exact hAm y hy
    · rw [if_neg ho] at hg
      obtain ⟨j2, hj2⟩ := gdF_p hd.1 hg
      by_cases h5 : E 13 i = 5
      · have eI : nxI E i (A ++ b :: R) = 16 * E 14 i := by unfold nxI; rw [if_pos h5]
        have eS : nxS E k i (A ++ b :: R) = ((topF (A ++ b :: R)).1, i + 1, k) :: (A ++ b :: R) := by
          unfold nxS
          rw [if_neg (by omega), if_neg (by omega), if_neg (by omega), if_pos h5]
        have hgd := (hr.2.2.2 h5).1
        have ha : 1 ≤ E 14 i ∧ E 14 i ≤ 3 := by omega
        unfold gd at hgd
        obtain ⟨j3, hj3⟩ := gdF_p (Int.le_refl 1) hgd
        have hl := hX.1 (E 14 i)
        rw [eS, eI]
        refine ⟨(E 14 i, 1) :: (T, d) :: G, ⟨by omega, by omega, by omega, by rw [show 16 * E 14 i + E 12 (E 14 i) - 16 * E 14 i = E 12 (E 14 i) by omega]; exact hgd, [], _, A ++ b :: R, rfl, by simp, fun x hx => absurd hx List.not_mem_nil, Or.inr ⟨by simp, by show 0 ≤ i + 1; omega, ?_⟩⟩, Or.inr (Or.inr (Or.inl ⟨rfl, h5⟩))⟩
        exact ⟨hT, hd, by show 16 * T ≤ i + 1 ∧ i + 1 < _; omega, by show gdF (E 13) (16 * T + E 12 T - (i + 1)).toNat (i + 1) d = 1; rw [hjn]; exact hg, A, b, R, rfl, hA, hAm, hB⟩
      · have eI : nxI E i (A ++ b :: R) = i + 1 := by
          unfold nxI
          rw [if_neg h5, if_neg (by omega)]
        have eS : nxS E k i (A ++ b :: R) = A ++ b :: R := by
          unfold nxS
          rw [if_neg (by omega), if_neg (by omega), if_neg (by omega), if_neg h5, if_neg h6]
        rw [eS, eI]
        exact ⟨(T, d) :: G, ⟨hT, hd, by omega, by rw [hjn]; exact hg, A, b, R, rfl, hA, hAm, hB⟩, Or.inr (Or.inl ⟨rfl, ho, h5, h6⟩)⟩
/-- at the start of a GOOD query -/
theorem gOK_0 {E : Mem} (hX : TXT E) (hg : gd (E 13) (E 12) 0 = 1) (t : Int) : gOK E [(0, 1)] 0 [(t, -1, 0)] := by
  unfold gd at hg
  obtain ⟨j, hj⟩ := gdF_p (Int.le_refl 1) hg
  have := hX.1 0
  exact ⟨by decide, by decide, by omega, by rw [show 16 * 0 + E 12 0 - 0 = E 12 0 by omega]; exact hg, [], (t, -1, 0), [], rfl, by simp, fun x hx => absurd hx List.not_mem_nil, Or.inl ⟨rfl, rfl, rfl⟩⟩
