/-! FRAME. The machine seen through whole numbers: a cell is a number c (its address is b0 + c), what it holds is M c k (an int, or the number of a cell, negative for null); 'AW' is W at such a state. -/
abbrev AV : Type := Int ⊕ Int
abbrev Mem : Type := Int → Int → Int
abbrev rg (x : Int) : Prop := -2147483648 ≤ x ∧ x ≤ 2147483647
def fx_v : AV → Int
  | .inl i => i
  | .inr r => r
def fx_rf (b0 : Nat) (r : Int) : Option Nat := if r < 0 then none else some (b0 + r.toNat)
def fx_co (b0 : Nat) (v : AV) : Value := match v with
  | .inl i => .int (Int32.ofInt i)
  | .inr r => va_rf (fx_rf b0 r)
theorem fx_cat (b0 : Nat) (v : AV) : (fx_co b0 v).category = 1 := by
  cases v with
  | inl i => rfl
  | inr r =>
    show (va_rf (fx_rf b0 r)).category = 1
    rcases va_rf_or (fx_rf b0 r) with h | ⟨a, h⟩ <;> rw [h] <;> rfl
abbrev fx_ok (v : AV) : Prop := rg (fx_v v)
def fx_okS (st : List AV) : Prop := ∀ v ∈ st, fx_ok v
def fx_okL (la : List (Option AV)) : Prop := ∀ v : AV, some v ∈ la → fx_ok v
/-- slots that never change once the system is built: which (class ci, field k; the array of the steps), and what they hold -/
def fx_gc (M : Mem) : Prop := ∀ c k : Int, fx_kk (fx_ly c).1 k = true → M c k = fx_cv c k
def fx_okM (g : Bool) (M : Mem) : Prop := (∀ c k : Int, rg (M c k)) ∧ (g = true → fx_gc M)
def fx_okO (r : Option AV) : Prop := ∀ v : AV, r = some v → fx_ok v
def up (M : Mem) (c k v : Int) : Mem := fun c' k' => if c' = c ∧ k' = k then v else M c' k'
theorem up_eq (M : Mem) (c k v : Int) : up M c k v c k = v := by simp [up]
theorem up_nc {M : Mem} {c k v c' k' : Int} (h : c' ≠ c) : up M c k v c' k' = M c' k' := by simp [up, h]
theorem up_nk {M : Mem} {c k v c' k' : Int} (h : k' ≠ k) : up M c k v c' k' = M c' k' := by simp [up, h]
theorem fx_okM_up {g : Bool} {M : Mem} {c k v : Int} (h : fx_okM g M) (hv : rg v) (hk : g = true → fx_kk (fx_ly c).1 k = false) : fx_okM g (up M c k v) := by
  refine ⟨fun c' k' => ?_, fun hg c' k' h2 => ?_⟩
  · unfold up
    split
    · exact hv
    · exact h.1 c' k'
  · unfold up
    split
    · rename_i e
      rw [e.1, e.2, hk hg] at h2
      cases h2
    · exact h.2 hg c' k' h2
theorem fx_toI {i : Int} (h : rg i) : (Int32.ofInt i).toInt = i := Int32.toInt_ofInt_of_le (by omega) (by omega)
theorem fx_lt {i j : Int} (h : rg i) (g : rg j) : Int32.ofInt i < Int32.ofInt j ↔ i < j := by rw [Int32.lt_iff_toInt_lt, fx_toI h, fx_toI g]
theorem fx_le {i j : Int} (h : rg i) (g : rg j) : Int32.ofInt i ≤ Int32.ofInt j ↔ i ≤ j := by rw [Int32.le_iff_toInt_le, fx_toI h, fx_toI g]
theorem fx_eq {i j : Int} (h : rg i) (g : rg j) : Int32.ofInt i = Int32.ofInt j ↔ i = j := by rw [← Int32.toInt_inj, fx_toI h, fx_toI g]
theorem fx_lt0 {i : Int} (h : rg i) : Int32.ofInt i < 0 ↔ i < 0 := by rw [Int32.lt_iff_toInt_lt, fx_toI h, Int32.toInt_zero]
theorem fx_le0 {i : Int} (h : rg i) : Int32.ofInt i ≤ 0 ↔ i ≤ 0 := by rw [Int32.le_iff_toInt_le, fx_toI h, Int32.toInt_zero]
theorem fx_0lt {i : Int} (h : rg i) : 0 < Int32.ofInt i ↔ 0 < i := by rw [Int32.lt_iff_toInt_lt, fx_toI h, Int32.toInt_zero]
theorem fx_0le {i : Int} (h : rg i) : 0 ≤ Int32.ofInt i ↔ 0 ≤ i := by rw [Int32.le_iff_toInt_le, fx_toI h, Int32.toInt_zero]
theorem fx_eq0 {i : Int} (h : rg i) : Int32.ofInt i = 0 ↔ i = 0 := by rw [← Int32.toInt_inj, fx_toI h, Int32.toInt_zero]
theorem fx_clamp {i : Int} (h : rg i) : (Int32.ofInt i).toNatClampNeg = i.toNat := Int32.toNatClampNeg_ofInt_of_le (by omega) (by omega)
theorem fx_in {i : Int} {n : Nat} (h : 0 ≤ i) (h2 : i < n) (g : rg i) : vp_in (Int32.ofInt i) n := by
  rw [vp_in_iff, fx_toI g]; exact ⟨h, h2⟩
-- the world
def fx_fv (ci : Nat) (k : Nat) (x : Int) : AV := if fx_isr ci k = true then .inr x else .inl x
theorem fx_fv_v (ci k : Nat) (x : Int) : fx_v (fx_fv ci k x) = x := by unfold fx_fv; split <;> rfl
abbrev DD : Type := va_G × (Nat → ClassId)
def fx_fs (b0 ci N : Nat) (M : Mem) (c : Nat) : List Value := (List.range N).map (fun k => fx_co b0 (fx_fv ci k (M c k)))
def fx_en (b0 : Nat) (cA : Nat → ClassId) (M : Mem) (c : Nat) : va_E :=
  if (fx_ly c).1 = 100 then .inl (cA 0, (fx_ly c).2, .inl (fun j => Int32.ofInt (M c j)))
  else if (fx_ly c).1 = 101 then .inl (cA 1, (fx_ly c).2, .inl (fun j => Int32.ofInt (M c j)))
  else if (fx_ly c).1 = 102 then .inl (cA 2, (fx_ly c).2, .inr (.inr (.inr (.inr (fun j => fx_rf b0 (M c j))))))
  else .inr ((fx_ly c).1, fx_fs b0 (fx_ly c).1 (fx_ly c).2 M c)
def fx_wl (b0 : Nat) (cA : Nat → ClassId) (n : Nat) (M : Mem) : va_W := (List.range n).map (fun c => (b0 + c, fx_en b0 cA M c))
def fx_tys (D : DD) : List (ClassId × FieldType) := [(D.2 0, .int), (D.2 1, .boolean), (D.2 2, .object fx_elem)]
def Wd (b0 : Nat) (D : DD) (n : Nat) (M : Mem) (H : Heap) : Prop := H.size = b0 + n ∧ va_P D.1 vwCl (fx_wl b0 D.2 n M) H
theorem fx_wl_at {b0 : Nat} {cA : Nat → ClassId} {n : Nat} {M : Mem} {c : Nat} (h : c < n) : (fx_wl b0 cA n M)[c]? = some (b0 + c, fx_en b0 cA M c) := by
  simp [fx_wl, h]
theorem fx_wl_D {b0 : Nat} {cA : Nat → ClassId} {n : Nat} {M : Mem} : va_D (fun q => b0 ≤ q) (fx_wl b0 cA n M) := by
  have key : ∀ (k : Nat) (q : Nat × va_E), (fx_wl b0 cA n M)[k]? = some q → q.1 = b0 + k := by
    intro k q h
    simp only [fx_wl, List.getElem?_map, List.getElem?_range] at h
    by_cases hk : k < n
    · simp [hk] at h; rw [← h]
    · simp [hk] at h
  refine ⟨fun i j p q hi hj e => ?_, fun k q hk => ?_⟩
  · have := key i p hi; have := key j q hj; omega
  · have := key k q hk; omega
theorem fx_wl_set {b0 : Nat} {cA : Nat → ClassId} {n : Nat} {M M' : Mem} {c : Nat} (h : c < n) (he : ∀ d : Nat, d ≠ c → fx_en b0 cA M' d = fx_en b0 cA M d) : (fx_wl b0 cA n M).set c (b0 + c, fx_en b0 cA M' c) = fx_wl b0 cA n M' := by
  apply List.ext_getElem?
  intro j
  by_cases hj : j = c
  · subst hj
    rw [List.getElem?_set_self (by simp [fx_wl, h]), fx_wl_at h]
  · rw [List.getElem?_set_ne (Ne.symm hj)]
    simp only [fx_wl, List.getElem?_map]
    by_cases hn : j < n
    · simp [hn, he j hj]
    · simp [hn]
theorem fx_en_up {b0 : Nat} {cA : Nat → ClassId} {M : Mem} {c k v : Int} {d : Nat} (h : (d : Int) ≠ c) : fx_en b0 cA (up M c k v) d = fx_en b0 cA M d := by
  have e : ∀ j : Int, up M c k v d j = M d j := fun j => up_nc h
  simp only [fx_en, fx_fs, e]
theorem fx_en_o {b0 : Nat} {cA : Nat → ClassId} {M : Mem} {c ci N : Nat} (h : fx_ly c = (ci, N)) (hc : ci < 100) : fx_en b0 cA M c = .inr (ci, fx_fs b0 ci N M c) := by
  unfold fx_en; rw [h]; simp only; rw [if_neg (by omega), if_neg (by omega), if_neg (by omega)]
theorem fx_en_i {b0 : Nat} {cA : Nat → ClassId} {M : Mem} {c N : Nat} (h : fx_ly c = (100, N)) : fx_en b0 cA M c = .inl (cA 0, N, .inl (fun j => Int32.ofInt (M c j))) := by
  unfold fx_en; rw [h]; rfl
theorem fx_en_z {b0 : Nat} {cA : Nat → ClassId} {M : Mem} {c N : Nat} (h : fx_ly c = (101, N)) : fx_en b0 cA M c = .inl (cA 1, N, .inl (fun j => Int32.ofInt (M c j))) := by
  unfold fx_en; rw [h]; rfl
theorem fx_en_q {b0 : Nat} {cA : Nat → ClassId} {M : Mem} {c N : Nat} (h : fx_ly c = (102, N)) : fx_en b0 cA M c = .inl (cA 2, N, .inr (.inr (.inr (.inr (fun j => fx_rf b0 (M c j)))))) := by
  unfold fx_en; rw [h]; rfl
theorem fx_fs_at {b0 ci N : Nat} {M : Mem} {c k : Nat} (h : k < N) : (fx_fs b0 ci N M c)[k]? = some (fx_co b0 (fx_fv ci k (M c k))) := by
  simp [fx_fs, h]
theorem fx_fs_set {b0 ci N : Nat} {M : Mem} {c k : Nat} {v : Int} (h : k < N) : (fx_fs b0 ci N M c).set k (fx_co b0 (fx_fv ci k v)) = fx_fs b0 ci N (up M c k v) c := by
  apply List.ext_getElem?
  intro j
  by_cases hj : j = k
  · subst hj
    rw [List.getElem?_set_self (by simp [fx_fs, h]), fx_fs_at h, up_eq]
  · rw [List.getElem?_set_ne (Ne.symm hj)]
    by_cases hn : j < N
    · rw [fx_fs_at hn, fx_fs_at hn, up_nk (by omega)]
    · simp [fx_fs, hn]
-- locals
def fx_L (b0 : Nat) (ls : Array Slot) (la : List (Option AV)) : Prop := ls.size = la.length ∧ lv_wf ls ∧ ∀ (i : Nat) (v : AV), la[i]? = some (some v) → ls[i]? = some (.val (fx_co b0 v))
def fx_ll (b0 : Nat) : Nat → List (Option AV) → List (Nat × Value)
  | _, [] => []
  | i, none :: l => fx_ll b0 (i + 1) l
  | i, some v :: l => (i, fx_co b0 v) :: fx_ll b0 (i + 1) l
theorem fx_ll_mem {b0 : Nat} : ∀ (la : List (Option AV)) (i : Nat) (q : Nat × Value), q ∈ fx_ll b0 i la ↔ ∃ (j : Nat) (v : AV), la[j]? = some (some v) ∧ q = (i + j, fx_co b0 v)
  | [], i, q => by simp [fx_ll]
  | none :: l, i, q => by
    rw [fx_ll, fx_ll_mem l (i + 1) q]
    constructor
    · rintro ⟨j, v, h, rfl⟩
      exact ⟨j + 1, v, by simpa using h, by rw [Nat.add_right_comm]; rfl⟩
    · rintro ⟨j, v, h, rfl⟩
      cases j with
      | zero => simp at h
      | succ j => exact ⟨j, v, by simpa using h, by rw [Nat.add_right_comm]; rfl⟩
  | some w :: l, i, q => by
    rw [fx_ll, List.mem_cons, fx_ll_mem l (i + 1) q]
    constructor
    · rintro (rfl | ⟨j, v, h, rfl⟩)
      · exact ⟨0, w, by simp, by simp⟩
      · exact ⟨j + 1, v, by simpa using h, by rw [Nat.add_right_comm]; rfl⟩
    · rintro ⟨j, v, h, rfl⟩
      cases j with
      | zero => simp at h; subst h; exact Or.inl (by simp)
      | succ j => exact Or.inr ⟨j, v, by simpa using h, by rw [Nat.add_right_comm]; rfl⟩
theorem fx_L_has {b0 : Nat} {ls : Array Slot} {la : List (Option AV)} (h : fx_L b0 ls la) : lv_has ls la.length (fx_ll b0 0 la) := by
  refine ⟨h.1, h.2.1, fun q hq => ?_⟩
  obtain ⟨j, v, hj, rfl⟩ := (fx_ll_mem la 0 q).mp hq
  simp only [Nat.zero_add]
  exact h.2.2 j v hj
theorem fx_L_set {b0 : Nat} {ls' : Array Slot} {la : List (Option AV)} {i : Nat} {v : AV} (hi : i < la.length) (h : lv_has ls' la.length ((i, fx_co b0 v) :: (fx_ll b0 0 la).filter (fun q => !(q.1 == i) && !(q.1 + 1 == i && q.2.category == 2)))) : fx_L b0 ls' (la.set i (some v)) := by
  obtain ⟨h1, h2, h3⟩ := h
  refine ⟨by simpa using h1, h2, fun j w hj => ?_⟩
  by_cases e : j = i
  · subst e
    rw [List.getElem?_set_self hi] at hj
    cases hj
    exact h3 (j, fx_co b0 v) List.mem_cons_self
  · rw [List.getElem?_set_ne (Ne.symm e)] at hj
    refine h3 (j, fx_co b0 w) (List.mem_cons_of_mem _ (List.mem_filter.mpr ⟨(fx_ll_mem la 0 _).mpr ⟨j, w, hj, by simp⟩, ?_⟩))
    simp [e, fx_cat]
theorem fx_L_entry {b0 : Nat} : ∀ (as : List AV) (i : Nat), lv_args i (as.map (fx_co b0)) = fx_ll b0 i (as.map some)
  | [], _ => rfl
  | v :: l, i => by
    simp only [List.map_cons, lv_args, fx_ll, fx_cat]
    rw [if_neg (by decide), fx_L_entry l (i + 1)]
theorem fx_sl (b0 : Nat) : ∀ as : List AV, lg_sl (as.map (fx_co b0)) = as.map (fun v => Slot.val (fx_co b0 v))
  | [] => rfl
  | v :: l => by
    have := fx_sl b0 l
    simp only [lg_sl] at this ⊢
    simp only [List.map_cons, List.flatMap_cons, fx_cat, this]
    rfl
theorem fx_isI (ci k : Nat) (x : Int) (h : fx_isr ci k = false) : fx_fv ci k x = .inl x := by unfold fx_fv; rw [h]; rfl
theorem fx_isR (ci k : Nat) (x : Int) (h : fx_isr ci k = true) : fx_fv ci k x = .inr x := by unfold fx_fv; rw [h]; rfl
