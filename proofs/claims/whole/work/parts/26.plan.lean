-- ===== the plan: what is left in the steps when a query is written out
def tr (E : Mem) (t : Int) : Nat → Int × List Fr × (Int → Int)
  | 0 => (0, [(t, -1, 0)], fun _ => 0)
  | j + 1 => (nxI E (tr E t j).1 (tr E t j).2.1, nxS E ((j : Int) + 1) (tr E t j).1 (tr E t j).2.1, nxU E (tr E t j).1 (tr E t j).2.1 (tr E t j).2.2)
/-- before step j + 1: its token; the open SETS; the fragments that are in use -/
def tI (E : Mem) (t : Int) (j : Nat) : Int := (tr E t j).1
def tS (E : Mem) (t : Int) (j : Nat) : List Fr := (tr E t j).2.1
def tU (E : Mem) (t : Int) (j : Nat) : Int → Int := (tr E t j).2.2
theorem tI_s {E : Mem} {t : Int} {j : Nat} : tI E t (j + 1) = nxI E (tI E t j) (tS E t j) := rfl
theorem tS_s {E : Mem} {t : Int} {j : Nat} : tS E t (j + 1) = nxS E ((j : Int) + 1) (tI E t j) (tS E t j) := rfl
theorem tU_s {E : Mem} {t : Int} {j : Nat} : tU E t (j + 1) = nxU E (tI E t j) (tS E t j) (tU E t j) := rfl
def CK (E : Mem) (t : Int) (j : Nat) : Int := ckO E (60 - j) ((j : Int) + 1) (tI E t j) (tS E t j) (tU E t j)
/-- the type behind a token where e is expected -/
def tyP (E : Mem) (e i : Int) : Int := if E 13 i = 3 then E 14 i else if E 13 i = 1 then tO E e (E 15 i) else e
/-- the END of step k, as far as j steps tell -/
def clo (E : Mem) (t : Int) : Nat → Int → Int
  | 0, k => k
  | j + 1, k => if E 13 (tI E t j) = 6 ∧ (topF (tS E t j)).2.2 = k then (j : Int) + 1 else clo E t j k
/-- an open SET was opened by its step, on top of what was open then -/
theorem tS_sd {E : Mem} {t : Int} : ∀ (j : Nat) (A : List Fr) (x : Fr) (R : List Fr), tS E t j = A ++ x :: R → (x = (t, -1, 0) ∧ R = []) ∨ ∃ k : Nat, k < j ∧ x.2.2 = (k : Int) + 1 ∧ R = tS E t k ∧ x.1 = tyP E (topF (tS E t k)).1 (tI E t k) ∧ (opnP (E 13 (tI E t k)) ∧ x.2.1 = -1 ∨ E 13 (tI E t k) = 5 ∧ x.2.1 = tI E t k + 1)
  | 0, A, x, R, h => by
    have h : [(t, -1, 0)] = A ++ x :: R := h
    cases A with
    | nil => simp at h; exact Or.inl ⟨h.1.symm, h.2⟩
    | cons a A => simp at h
  | j + 1, A, x, R, h => by
    rw [tS_s] at h
    have old : ∀ A' : List Fr, tS E t j = A' ++ x :: R → _ := fun A' h' => tS_sd j A' x R h'
    have lift : (x = (t, -1, 0) ∧ R = []) ∨ (∃ k : Nat, k < j ∧ x.2.2 = (k : Int) + 1 ∧ R = tS E t k ∧ x.1 = tyP E (topF (tS E t k)).1 (tI E t k) ∧ (opnP (E 13 (tI E t k)) ∧ x.2.1 = -1 ∨ E 13 (tI E t k) = 5 ∧ x.2.1 = tI E t k + 1)) → (x = (t, -1, 0) ∧ R = []) ∨ ∃ k : Nat, k < j + 1 ∧ x.2.2 = (k : Int) + 1 ∧ R = tS E t k ∧ x.1 = tyP E (topF (tS E t k)).1 (tI E t k) ∧ (opnP (E 13 (tI E t k)) ∧ x.2.1 = -1 ∨ E 13 (tI E t k) = 5 ∧ x.2.1 = tI E t k + 1) := fun q => q.elim Or.inl (fun ⟨k, h1, h2⟩ => Or.inr ⟨k, by omega, h2⟩)
    have push : ∀ (y : Fr), y.2.2 = (j : Int) + 1 → y.1 = tyP E (topF (tS E t j)).1 (tI E t j) → (opnP (E 13 (tI E t j)) ∧ y.2.1 = -1 ∨ E 13 (tI E t j) = 5 ∧ y.2.1 = tI E t j + 1) → y :: tS E t j = A ++ x :: R → (x = (t, -1, 0) ∧ R = []) ∨ ∃ k : Nat, k < j + 1 ∧ x.2.2 = (k : Int) + 1 ∧ R = tS E t k ∧ x.1 = tyP E (topF (tS E t k)).1 (tI E t k) ∧ (opnP (E 13 (tI E t k)) ∧ x.2.1 = -1 ∨ E 13 (tI E t k) = 5 ∧ x.2.1 = tI E t k + 1) := by
      intro y h1 h2 h3 h4
      cases A with
      | nil =>
        simp at h4
        obtain ⟨rfl, rfl⟩ := h4
        exact Or.inr ⟨j, by omega, h1, rfl, h2, h3⟩
      | cons a A =>
        simp at h4
        exact lift (old A h4.2)
    unfold nxS at h
    by_cases o1 : E 13 (tI E t j) = 1
    · rw [if_pos o1] at h
      exact push _ rfl (by unfold tyP; rw [if_neg (by omega), if_pos o1]) (Or.inl ⟨Or.inl o1, rfl⟩) h
    rw [if_neg o1] at h
    by_cases o3 : E 13 (tI E t j) = 3
    · rw [if_pos o3] at h
      exact push _ rfl (by unfold tyP; rw [if_pos o3]) (Or.inl ⟨Or.inr (Or.inl o3), rfl⟩) h
    rw [if_neg o3] at h
    by_cases o4 : E 13 (tI E t j) = 4
    · rw [if_pos o4] at h
      exact push _ rfl (by unfold tyP; rw [if_neg o3, if_neg o1]) (Or.inl ⟨Or.inr (Or.inr o4), rfl⟩) h
    rw [if_neg o4] at h
    by_cases o5 : E 13 (tI E t j) = 5
    · rw [if_pos o5] at h
      exact push _ rfl (by unfold tyP; rw [if_neg o3, if_neg o1]) (Or.inr ⟨o5, rfl⟩) h
    rw [if_neg o5] at h
    by_cases o6 : E 13 (tI E t j) = 6
    · rw [if_pos o6] at h
      cases hs : tS E t j with
      | nil => rw [hs] at h; simp at h
      | cons a st =>
        rw [hs] at h
        simp at h
        exact lift (old (a :: A) (by rw [hs, h]; rfl))
    rw [if_neg o6] at h
    exact lift (old A h)
/-- the steps 1 .. j stand in the cells -/
def stK (E : Mem) (t : Int) (j : Nat) (M : Mem) (k : Nat) : Prop :=
  M (20 + ((k : Int) + 1)) 1 = E 13 (tI E t k) ∧ M (20 + ((k : Int) + 1)) 2 = E 14 (tI E t k) ∧ M (20 + ((k : Int) + 1)) 3 = E 15 (tI E t k) ∧ M (20 + ((k : Int) + 1)) 4 = 20 + (topF (tS E t k)).2.2 ∧ M (20 + ((k : Int) + 1)) 5 = tyP E (topF (tS E t k)).1 (tI E t k) ∧ M (20 + ((k : Int) + 1)) 6 = clo E t j ((k : Int) + 1) ∧ (E 13 (tI E t k) = 0 ∨ E 13 (tI E t k) = 1 → M (20 + ((k : Int) + 1)) 7 = kO E (topF (tS E t k)).1 (E 15 (tI E t k)) ∧ M (20 + ((k : Int) + 1)) 8 = rO E (topF (tS E t k)).1 (E 15 (tI E t k)))
def PS (E : Mem) (t : Int) (j : Nat) (M : Mem) : Prop :=
  M 17 4 = (j : Int) + 1 ∧ (∀ c x : Int, c < 17 → M c x = E c x) ∧ (∀ k : Nat, k < j → stK E t j M k) ∧ (M 20 5 = t ∧ M 20 4 = 20) ∧ (clo E t j 0 ≠ 0 → M 20 6 = clo E t j 0) ∧ ∀ f : Int, 1 ≤ f → f ≤ 3 → M 19 f = tU E t j f
theorem tS_op {E : Mem} {t : Int} {j : Nat} {x : Fr} {R : List Fr} (h : tS E t j = x :: R) : 0 ≤ x.2.2 ∧ x.2.2 ≤ j := by
  rcases tS_sd j [] x R h with ⟨rfl, -⟩ | ⟨k, h1, h2, -⟩
  · exact ⟨Int.le_refl 0, by show (0 : Int) ≤ j; omega⟩
  · omega
theorem PS_in {E : Mem} {t : Int} {j : Nat} {M : Mem} {x : Fr} {R : List Fr} (hP : PS E t j M) (h : tS E t j = x :: R) : M (20 + x.2.2) 5 = x.1 ∧ ∀ y R', R = y :: R' → M (20 + x.2.2) 4 = 20 + y.2.2 := by
  rcases tS_sd j [] x R h with ⟨rfl, rfl⟩ | ⟨k, h1, h2, h3, h4, -⟩
  · exact ⟨hP.2.2.2.1.1, fun y R' q => by cases q⟩
  · have hk := hP.2.2.1 k h1
    rw [h2]
    refine ⟨by rw [hk.2.2.2.2.1, h4], fun y R' q => ?_⟩
    rw [hk.2.2.2.1, ← h3, q]
    rfl
theorem clo_new {E : Mem} {t : Int} : ∀ (j : Nat) (k : Int), (j : Int) < k → clo E t j k = k
  | 0, k, _ => rfl
  | j + 1, k, h => by
    unfold clo
    rw [if_neg, clo_new j k (by omega)]
    rintro ⟨-, q⟩
    cases hs : tS E t j with
    | nil => rw [hs] at q; have : (0 : Int) = k := q; omega
    | cons x R => rw [hs] at q; have := tS_op hs; have q : x.2.2 = k := q; omega
theorem CK_s {E : Mem} {t : Int} {j : Nat} {x : Fr} {R : List Fr} (hj : j < 60) (h : tS E t j = x :: R) (hr : rgtP E x.1 (tI E t j) (tU E t j)) : CK E t j = CK E t (j + 1) := by
  unfold CK
  obtain ⟨q, hq⟩ : ∃ q : Nat, 60 - j = q + 1 := ⟨59 - j, by omega⟩
  rw [hq, show 60 - (j + 1) = q by omega, tI_s, tS_s, tU_s, h, ckO_s, if_pos hr]
  rfl
theorem CK_bad {E : Mem} {t : Int} {j : Nat} {x : Fr} {R : List Fr} (h : tS E t j = x :: R) (hr : j < 60 → ¬ rgtP E x.1 (tI E t j) (tU E t j)) : CK E t j = tI E t j := by
  unfold CK
  rw [h]
  by_cases hj : j < 60
  · obtain ⟨q, hq⟩ : ∃ q : Nat, 60 - j = q + 1 := ⟨59 - j, by omega⟩
    rw [hq, ckO_s, if_neg (hr hj)]
  · rw [show 60 - j = 0 by omega, ckO_0]
theorem CK_0 {E : Mem} {t : Int} : CK E t 0 = ckO E 60 1 0 [(t, -1, 0)] (fun _ => 0) := rfl
