-- ===== the plan's steps are nested; what is collected together lies beside each other
/-- z steps stand: each SET ends within the plan, and a SET within another one ends before it -/
def PLN (B : Mem) (z : Int) : Prop := z ≤ 61 ∧ (∀ c : Int, 20 ≤ c → c < 20 + z → (c - 20 ≤ B c 6 ∧ B c 6 < z) ∧ ∀ q : Int, c < q → q - 20 < B c 6 → B q 6 < B c 6) ∧ ∀ c : Int, 20 < c → c < 20 + z → (B c 1 = 4 → 0 ≤ B c 2 ∧ B c 2 ≤ 3) ∧ (B c 1 = 0 ∨ B c 1 = 2 → B c 6 = c - 20) ∧ (B c 1 = 0 ∨ B c 1 = 1 → 0 ≤ B c 3 ∧ B c 3 ≤ 3) ∧ (isEP B c → 0 ≤ B c 2 ∧ B c 2 ≤ 9)
/-- M has what B has, but for what Asking holds and for the chains -/
def kp (B M : Mem) : Prop := ∀ c y : Int, (c < 81 ∨ 87 < c) → ¬ ((20 ≤ c ∧ c < 81) ∧ (y = 9 ∨ y = 10)) → M c y = B c y
def ff (B : Mem) (sets : List Int) (M M' : Mem) : Prop := ∀ c y : Int, (c < 81 ∨ 87 < c) → ¬ (inR B sets c ∧ (y = 9 ∨ y = 10)) → M' c y = M c y
def AC (B : Mem) (L : List Int) : Prop := ∀ p ∈ L, ∀ c ∈ L, ¬ (p < c ∧ c - 20 < B p 6)
abbrev inP (z : Int) (L : List Int) : Prop := ∀ p ∈ L, 20 ≤ p ∧ p < 20 + z
theorem inR_rg {B : Mem} {z : Int} (hP : PLN B z) {L : List Int} (hs : inP z L) {c : Int} (h : inR B L c) : 20 < c ∧ c < 20 + z := by
  obtain ⟨p, p1, p2, p3⟩ := h
  have h1 := hs p p1
  have h2 := (hP.2.1 p h1.1 h1.2).1
  omega
theorem kp_ff {B M M' : Mem} {sets : List Int} {z : Int} (hP : PLN B z) (hs : inP z sets) (h : kp B M) (f : ff B sets M M') : kp B M' := by
  intro c y hc hy
  rw [f c y hc (fun q => hy ⟨by have := inR_rg hP hs q.1; have := hP.1; omega, q.2⟩)]
  exact h c y hc hy
theorem ff_tr {B M M' M'' : Mem} {sets : List Int} (h : ff B sets M M') (h' : ff B sets M' M'') : ff B sets M M'' := fun c y hc hy => by rw [h' c y hc hy, h c y hc hy]
theorem ff_rfl {B M : Mem} {sets : List Int} : ff B sets M M := fun _ _ _ _ => rfl
theorem ff_sub {B M M' : Mem} {e sets : List Int} (hs : ∀ c : Int, inR B e c → inR B sets c) (h : ff B e M M') : ff B sets M M' := fun c y hc hy => h c y hc (fun q => hy ⟨hs c q.1, q.2⟩)
theorem hdE_lt {e : List Int} {N : Int} (hN : 0 < N) (h : ∀ c ∈ e, c < N) : hdE e < N := by
  cases e with
  | nil => exact hN
  | cons c r => exact h c List.mem_cons_self
theorem enP_kp {B M : Mem} {s : Int} (h : kp B M) (hs : s < 81) : ∀ es : List (List Int), (∀ c ∈ es.flatten, c < 81) → enP M s es = enP B s es
  | [], _ => rfl
  | e :: es, he => by
    have h0 : hdE e < 81 := hdE_lt (by decide) (fun c hc => he c (by rw [List.flatten_cons]; exact List.mem_append_left _ hc))
    unfold enP
    rw [h _ 2 (Or.inl h0) (by omega), h _ 1 (Or.inl h0) (by omega), h _ 3 (Or.inl h0) (by omega), h s 2 (Or.inl hs) (by omega), h s 1 (Or.inl hs) (by omega), h s 3 (Or.inl hs) (by omega), enP_kp h hs es (fun x hx => he x (by rw [List.flatten_cons]; exact List.mem_append_right _ hx))]
theorem cI_lt {B : Mem} {ty cl : Int} (hcl : cl ≤ 61) : ∀ (f : Nat) (i : Int) (es es' : List (List Int)), (∀ c ∈ es.flatten, c < 81) → cI B ty cl f i es = some es' → ∀ c ∈ es'.flatten, c < 81
  | 0, i, es, es', he, h => by cases h; exact he
  | f + 1, i, es, es', he, h => by
    unfold cI at h
    split at h
    · cases h; exact he
    · split at h
      · cases hq : enP B (20 + i) es with
        | none => rw [hq] at h; cases h
        | some e2 =>
          rw [hq] at h
          refine cI_lt hcl f _ e2 es' (fun c hc => ?_) h
          rcases enP_fl es e2 hq c hc with q | q
          · exact he c q
          · omega
      · exact cI_lt hcl f _ es es' he h
theorem cI_kp {B M : Mem} {ty cl : Int} (h : kp B M) (hcl : cl ≤ 61) : ∀ (f : Nat) (i : Int) (es : List (List Int)), (∀ c ∈ es.flatten, c < 81) → cI M ty cl f i es = cI B ty cl f i es
  | 0, _, _, _ => rfl
  | f + 1, i, es, he => by
    by_cases hi : cl ≤ i
    · unfold cI; rw [if_pos hi, if_pos hi]
    · have hs : 20 + i < 81 := by omega
      have e1 := h (20 + i) 1 (Or.inl hs) (by omega)
      have e2 := h (20 + i) 2 (Or.inl hs) (by omega)
      have e3 := h (20 + i) 3 (Or.inl hs) (by omega)
      have e6 := h (20 + i) 6 (Or.inl hs) (by omega)
      have e16 : ∀ y : Int, M 16 y = B 16 y := fun y => h 16 y (by decide) (by omega)
      have en : nxC M ty i = nxC B ty i := by
        unfold nxC
        simp only [pasP, e1, e2, e3, e6, e16]
      have ee : isEP M (20 + i) = isEP B (20 + i) := by simp only [isEP, e1]
      have ep := enP_kp h hs es he
      by_cases hE : isEP B (20 + i)
      · unfold cI
        rw [if_neg hi, if_neg hi, if_pos (by rw [ee]; exact hE), if_pos hE, ep, en]
        cases hq : enP B (20 + i) es with
        | none => rfl
        | some e2 =>
          refine cI_kp h hcl f _ e2 (fun c hc => ?_)
          rcases enP_fl es e2 hq c hc with q | q
          · exact he c q
          · omega
      · unfold cI
        rw [if_neg hi, if_neg hi, if_neg (by rw [ee]; exact hE), if_neg hE, en]
        exact cI_kp h hcl f _ es he
theorem cO_kp {B M : Mem} {ty : Int} (h : kp B M) : ∀ (sets : List Int) (es : List (List Int)), (∀ p ∈ sets, p < 81 ∧ B p 6 ≤ 61) → (∀ c ∈ es.flatten, c < 81) → cO M ty sets es = cO B ty sets es
  | [], _, _, _ => rfl
  | p :: cs, es, hs, he => by
    have hp := hs p List.mem_cons_self
    unfold cO
    rw [h p 6 (Or.inl hp.1) (by omega), cI_kp h hp.2 _ _ _ he]
    cases hq : cI B ty (B p 6) 61 (p - 20 + 1) es with
    | none => rfl
    | some e2 => exact cO_kp h cs e2 (fun q hq => hs q (List.mem_cons_of_mem _ hq)) (cI_lt hp.2 _ _ _ _ he hq)
theorem cI_ac {B : Mem} {z : Int} (hP : PLN B z) {ty o : Int} {done : List Int} (ho : 20 ≤ o ∧ o < 20 + z) (hd : inP z done) (h4 : ∀ c : Int, inR B done c → ¬ (o < c ∧ c - 20 < B o 6)) : ∀ (f : Nat) (i : Int) (es es' : List (List Int)), o - 20 < i → (∀ c ∈ es.flatten, isEP B c ∧ (inR B done c ∨ (o < c ∧ B c 6 < i ∧ c - 20 < B o 6))) → AC B es.flatten → cI B ty (B o 6) f i es = some es' → (∀ c ∈ es'.flatten, isEP B c ∧ inR B (done ++ [o]) c) ∧ AC B es'.flatten := by
  have fin : ∀ (i : Int) (es : List (List Int)), (∀ c ∈ es.flatten, isEP B c ∧ (inR B done c ∨ (o < c ∧ B c 6 < i ∧ c - 20 < B o 6))) → ∀ c ∈ es.flatten, isEP B c ∧ inR B (done ++ [o]) c := by
    intro i es h c hc
    refine ⟨(h c hc).1, ?_⟩
    rcases (h c hc).2 with ⟨q, q1, q2⟩ | q
    · exact ⟨q, List.mem_append_left _ q1, q2⟩
    · exact ⟨o, List.mem_append_right _ List.mem_cons_self, q.1, q.2.2⟩
  have hoP := (hP.2.1 o ho.1 ho.2)
  intro f
  induction f with
  | zero => intro i es es' hi h1 h2 h; cases h; exact ⟨fin i es h1, h2⟩
  | succ f ih =>
    intro i es es' hi h1 h2 h
    have hgt := nxC_gt (B := B) (ty := ty) (i := i)
    unfold cI at h
    split at h
    · cases h; exact ⟨fin i es h1, h2⟩
    · rename_i hcl
      have hsr : 20 < 20 + i ∧ 20 + i < 20 + z := by omega
      have old : ∀ c ∈ es.flatten, isEP B c ∧ (inR B done c ∨ (o < c ∧ B c 6 < nxC B ty i ∧ c - 20 < B o 6)) := fun c hc => ⟨(h1 c hc).1, (h1 c hc).2.imp id (fun q => ⟨q.1, by omega, q.2.2⟩)⟩
      split at h
      · rename_i hE
        cases hq : enP B (20 + i) es with
        | none => rw [hq] at h; cases h
        | some e2 =>
          rw [hq] at h
          have hs6 : B (20 + i) 6 < nxC B ty i := by
            unfold nxC
            rcases hE with q | q | q
            · have := (hP.2.2 (20 + i) hsr.1 hsr.2).2.1 (Or.inl q)
              repeat (first | omega | split)
            · rw [if_pos (Or.inl q)]; split <;> omega
            · have := (hP.2.2 (20 + i) hsr.1 hsr.2).2.1 (Or.inr q)
              repeat (first | omega | split)
          have hsn : B (20 + i) 6 < B o 6 := hoP.2 (20 + i) (by omega) (by omega)
          have hso := hP.2.1 (20 + i) (by omega) hsr.2
          refine ih _ e2 es' (by omega) (fun c hc => ?_) (fun p hp c hc => ?_) h
          · rcases enP_fl es e2 hq c hc with w | w
            · exact old c w
            · rw [w]; exact ⟨hE, Or.inr ⟨by omega, hs6, by omega⟩⟩
          · rintro ⟨k1, k2⟩
            rcases enP_fl es e2 hq p hp with wp | wp <;> rcases enP_fl es e2 hq c hc with wc | wc
            · exact h2 p wp c wc ⟨k1, k2⟩
            · subst wc
              rcases (h1 p wp).2 with ⟨q, q1, q2, q3⟩ | w
              · have hq0 := hd q q1
                have hqn := (hP.2.1 q hq0.1 hq0.2).2 p q2 q3
                exact h4 (20 + i) ⟨q, q1, by omega, by omega⟩ ⟨by omega, by omega⟩
              · omega
            · subst wp
              rcases (h1 c wc).2 with w | w
              · exact h4 c w ⟨by omega, by omega⟩
              · have := (hP.2.1 c (by omega) (by omega)).1
                omega
            · omega
      · exact ih _ es es' (by omega) old h2 h
theorem cO_ac {B : Mem} {z : Int} (hP : PLN B z) {ty : Int} {sets : List Int} (hs : inP z sets) (h4 : ∀ done p cs, sets = done ++ p :: cs → ∀ c : Int, inR B done c → ¬ (p < c ∧ c - 20 < B p 6)) : ∀ (cs done : List Int) (es es' : List (List Int)), sets = done ++ cs → (∀ c ∈ es.flatten, isEP B c ∧ inR B done c) → AC B es.flatten → cO B ty cs es = some es' → (∀ c ∈ es'.flatten, isEP B c ∧ inR B sets c) ∧ AC B es'.flatten := by
  intro cs
  induction cs with
  | nil => intro done es es' hsp h1 h2 h; cases h; rw [hsp, List.append_nil]; exact ⟨h1, h2⟩
  | cons p cs ih =>
    intro done es es' hsp h1 h2 h
    unfold cO at h
    cases hq : cI B ty (B p 6) 61 (p - 20 + 1) es with
    | none => rw [hq] at h; cases h
    | some e2 =>
      rw [hq] at h
      obtain ⟨k1, k2⟩ := cI_ac hP (hs p (by rw [hsp]; exact List.mem_append_right _ List.mem_cons_self)) (fun q hq => hs q (by rw [hsp]; exact List.mem_append_left _ hq)) (h4 done p cs hsp) 61 _ es e2 (by omega) (fun c hc => ⟨(h1 c hc).1, Or.inl (h1 c hc).2⟩) h2 hq
      exact ih (done ++ [p]) e2 es' (by rw [hsp]; simp) k1 k2 h
/-- sets that lie beside each other and are chained -/
theorem SETS_of {B M : Mem} {z : Int} (hP : PLN B z) (hk : kp B M) {e : List Int} (he : inP z e) (hA : AC B e) (hn : e.Nodup) (hc : nxL M 10 e) : SETS M e := by
  have e6 : ∀ p ∈ e, M p 6 = B p 6 := fun p hp => hk p 6 (Or.inl (by have := he p hp; have := hP.1; omega)) (by omega)
  refine ⟨hc, fun p hp => ?_, fun p hp q => ?_, fun done p cs hsp c hi hcc => ?_⟩
  · have h1 := he p hp
    have := (hP.2.1 p h1.1 h1.2).1
    have := hP.1
    rw [e6 p hp]; omega
  · obtain ⟨r, r1, r2, r3⟩ := q
    rw [e6 r r1] at r3
    exact hA r r1 p hp ⟨r2, r3⟩
  · obtain ⟨r, r1, r2, r3⟩ := hi
    have hr : r ∈ e := by rw [hsp]; exact List.mem_append_left _ r1
    have hp : p ∈ e := by rw [hsp]; exact List.mem_append_right _ List.mem_cons_self
    rw [e6 r hr] at r3
    rw [e6 p hp] at hcc
    rw [hsp, List.nodup_append] at hn
    have hne : r ≠ p := hn.2.2 r r1 p List.mem_cons_self
    have a1 := hA r hr p hp
    have a2 := hA p hp r hr
    omega
/-- back from sets to their antichain -/
theorem SETS_ac {B M : Mem} {z : Int} (hP : PLN B z) (hk : kp B M) {e : List Int} (he : inP z e) (h : SETS M e) : (∀ p ∈ e, ¬ inR B e p) ∧ ∀ done p cs, e = done ++ p :: cs → ∀ c : Int, inR B done c → ¬ (p < c ∧ c - 20 < B p 6) := by
  have e6 : ∀ p ∈ e, M p 6 = B p 6 := fun p hp => hk p 6 (Or.inl (by have := he p hp; have := hP.1; omega)) (by omega)
  refine ⟨fun p hp q => h.2.2.1 p hp ?_, fun done p cs hsp c hi hcc => h.2.2.2 done p cs hsp c ?_ ?_⟩
  · obtain ⟨r, r1, r2, r3⟩ := q
    exact ⟨r, r1, r2, by rw [e6 r r1]; exact r3⟩
  · obtain ⟨r, r1, r2, r3⟩ := hi
    exact ⟨r, r1, r2, by rw [e6 r (by rw [hsp]; exact List.mem_append_left _ r1)]; exact r3⟩
  · rw [e6 p (by rw [hsp]; exact List.mem_append_right _ List.mem_cons_self)]; exact hcc
theorem inR_kp {B M : Mem} {z : Int} (hP : PLN B z) (hk : kp B M) {e : List Int} (he : inP z e) {c : Int} (h : inR M e c) : inR B e c := by
  obtain ⟨r, r1, r2, r3⟩ := h
  exact ⟨r, r1, r2, by rw [← hk r 6 (Or.inl (by have := he r r1; have := hP.1; omega)) (by omega)]; exact r3⟩
/-- what lies in the SET of an ENTRY lies in the SETS that the ENTRY was collected from -/
theorem inR_tr {B : Mem} {z : Int} (hP : PLN B z) {e sets : List Int} (hs : inP z sets) (h : ∀ c ∈ e, inR B sets c) {c : Int} (hc : inR B e c) : inR B sets c := by
  obtain ⟨p, p1, p2, p3⟩ := hc
  obtain ⟨q, q1, q2, q3⟩ := h p p1
  have h1 := hs q q1
  have := (hP.2.1 q h1.1 h1.2).2 p q2 q3
  exact ⟨q, q1, by omega, by omega⟩
