-- ===== what is collected: names, steps
theorem nodup_lo (o : Int) : ∀ (k : Nat) (L : List Int), L.Nodup → (∀ x ∈ L, o ≤ x ∧ x < o + (k : Int)) → L.length ≤ k
  | 0, L, _, hb => by
    cases L with
    | nil => exact Nat.le_refl _
    | cons a L => have := hb a List.mem_cons_self; omega
  | k + 1, L, hn, hb => by
    by_cases hk : o + (k : Int) ∈ L
    · have h1 := nodup_lo o k (L.erase (o + (k : Int))) (hn.erase _) (fun x hx => by
        have h2 := (hn.mem_erase_iff).mp hx
        have h3 := hb x h2.2
        have h4 := h2.1
        omega)
      have h2 := List.length_erase_of_mem hk
      have h3 : 0 < L.length := List.length_pos_of_mem hk
      omega
    · have := nodup_lo o k L hn (fun x hx => by
        have h3 := hb x hx
        have h4 : x ≠ o + (k : Int) := fun q => hk (by rw [← q]; exact hx)
        omega)
      omega
theorem nodup_le (k : Nat) (L : List Int) (hn : L.Nodup) (hb : ∀ x ∈ L, 0 ≤ x ∧ x < (k : Int)) : L.length ≤ k := nodup_lo 0 k L hn (fun x hx => by have := hb x hx; omega)
theorem enP_idx (B : Mem) (s : Int) : ∀ es : List (List Int), ((∀ e ∈ es, B (hdE e) 2 ≠ B s 2) ∧ enP B s es = some (es ++ [[s]])) ∨ ∃ es1 e es2, es = es1 ++ e :: es2 ∧ (∀ e ∈ es1, B (hdE e) 2 ≠ B s 2) ∧ B (hdE e) 2 = B s 2 ∧ enP B s es = if B (hdE e) 1 = B s 1 ∧ (B s 1 = 2 ∨ B (hdE e) 3 = B s 3) then some (es1 ++ (e ++ [s]) :: es2) else none
  | [] => Or.inl ⟨fun e he => absurd he List.not_mem_nil, rfl⟩
  | e :: es => by
    by_cases h : B (hdE e) 2 = B s 2
    · refine Or.inr ⟨[], e, es, rfl, fun e he => absurd he List.not_mem_nil, h, ?_⟩
      unfold enP
      rw [if_pos h]
      rfl
    · rcases enP_idx B s es with ⟨h1, h2⟩ | ⟨es1, e2, es2, h1, h2, h3, h4⟩
      · refine Or.inl ⟨fun a ha => ?_, ?_⟩
        · rcases List.mem_cons.mp ha with rfl | ha
          · exact h
          · exact h1 a ha
        · unfold enP
          rw [if_neg h, h2]
          rfl
      · refine Or.inr ⟨e :: es1, e2, es2, by rw [h1]; rfl, fun a ha => ?_, h3, ?_⟩
        · rcases List.mem_cons.mp ha with rfl | ha
          · exact h
          · exact h2 a ha
        · unfold enP
          rw [if_neg h, h4]
          split <;> rfl
/-- ENTRIES: each has a step, no step twice, no name twice, and the steps of one go together -/
def EPC (B : Mem) (es : List (List Int)) : Prop := (∀ e ∈ es, e ≠ []) ∧ es.flatten.Nodup ∧ (es.map (fun e => B (hdE e) 2)).Nodup ∧ ∀ e ∈ es, ∀ c ∈ e, (B c 1 = B (hdE e) 1 ∧ B c 2 = B (hdE e) 2) ∧ (B c 1 = 2 ∨ B c 3 = B (hdE e) 3)
theorem EPC_0 {B : Mem} : EPC B [] := ⟨fun e he => absurd he List.not_mem_nil, by simp, by simp, fun e he => absurd he List.not_mem_nil⟩
theorem hdE_app {e : List Int} (h : e ≠ []) (s : Int) : hdE (e ++ [s]) = hdE e := by
  cases e with
  | nil => exact absurd rfl h
  | cons a e => rfl
theorem EPC_en {B : Mem} {s : Int} {es es' : List (List Int)} (h : EPC B es) (hs : s ∉ es.flatten) (he : enP B s es = some es') : EPC B es' := by
  obtain ⟨h1, h2, h3, h4⟩ := h
  rcases enP_idx B s es with ⟨g1, g2⟩ | ⟨es1, e, es2, g1, g2, g3, g4⟩
  · rw [g2] at he
    cases he
    refine ⟨fun e he => ?_, ?_, ?_, fun e he c hc => ?_⟩
    · rcases List.mem_append.mp he with he | he
      · exact h1 e he
      · simp at he; rw [he]; simp
    · rw [List.flatten_append, List.nodup_append]
      refine ⟨h2, by simp, fun a ha b hb q => hs ?_⟩
      simp at hb
      rw [← hb, ← q]; exact ha
    · rw [List.map_append, List.nodup_append]
      refine ⟨h3, by simp, fun a ha b hb q => ?_⟩
      obtain ⟨e, e1, e2⟩ := List.mem_map.mp ha
      simp at hb
      exact g1 e e1 (by rw [e2, q, hb])
    · rcases List.mem_append.mp he with he | he
      · exact h4 e he c hc
      · simp at he
        subst he
        simp at hc
        subst hc
        exact ⟨⟨rfl, rfl⟩, Or.inr rfl⟩
  · rw [g4] at he
    by_cases hg : B (hdE e) 1 = B s 1 ∧ (B s 1 = 2 ∨ B (hdE e) 3 = B s 3)
    · rw [if_pos hg] at he
      cases he
      subst g1
      have hem : e ∈ es1 ++ e :: es2 := List.mem_append_right _ List.mem_cons_self
      have hh := hdE_app (h1 e hem) s
      refine ⟨fun a ha => ?_, ?_, ?_, fun a ha c hc => ?_⟩
      · rcases List.mem_append.mp ha with ha | ha
        · exact h1 a (List.mem_append_left _ ha)
        · rcases List.mem_cons.mp ha with rfl | ha
          · simp
          · exact h1 a (List.mem_append_right _ (List.mem_cons_of_mem _ ha))
      · have hp : (es1 ++ (e ++ [s]) :: es2).flatten.Perm (s :: (es1 ++ e :: es2).flatten) := by
          have e1 : (es1 ++ (e ++ [s]) :: es2).flatten = (es1.flatten ++ e) ++ s :: es2.flatten := by simp
          have e2 : (es1 ++ e :: es2).flatten = (es1.flatten ++ e) ++ es2.flatten := by simp
          rw [e1, e2]
          exact List.perm_middle
        rw [hp.nodup_iff, List.nodup_cons]
        exact ⟨hs, h2⟩
      · rw [List.map_append, List.map_cons] at h3 ⊢
        rw [hh]
        exact h3
      · rcases List.mem_append.mp ha with ha | ha
        · exact h4 a (List.mem_append_left _ ha) c hc
        · rcases List.mem_cons.mp ha with rfl | ha
          · rw [hh]
            rcases List.mem_append.mp hc with hc | hc
            · exact h4 e hem c hc
            · simp at hc
              subst hc
              exact ⟨⟨hg.1.symm, g3.symm⟩, hg.2.imp id Eq.symm⟩
          · exact h4 a (List.mem_append_right _ (List.mem_cons_of_mem _ ha)) c hc
    · rw [if_neg hg] at he; cases he
theorem cI_ep {B : Mem} {z : Int} (hP : PLN B z) {ty o : Int} {done : List Int} (ho : 20 ≤ o ∧ o < 20 + z) (h4 : ∀ c : Int, inR B done c → ¬ (o < c ∧ c - 20 < B o 6)) : ∀ (f : Nat) (i : Int) (es es' : List (List Int)), o - 20 < i → (∀ c ∈ es.flatten, inR B done c ∨ (o < c ∧ B c 6 < i ∧ c - 20 < B o 6)) → EPC B es → cI B ty (B o 6) f i es = some es' → EPC B es' ∧ ∀ c ∈ es'.flatten, isEP B c ∨ c ∈ es.flatten := by
  have hoP := (hP.2.1 o ho.1 ho.2)
  intro f
  induction f with
  | zero => intro i es es' hi h1 h2 h; cases h; exact ⟨h2, fun c hc => Or.inr hc⟩
  | succ f ih =>
    intro i es es' hi h1 h2 h
    have hgt := nxC_gt (B := B) (ty := ty) (i := i)
    unfold cI at h
    split at h
    · cases h; exact ⟨h2, fun c hc => Or.inr hc⟩
    · rename_i hcl
      have hsr : 20 < 20 + i ∧ 20 + i < 20 + z := by omega
      have old : ∀ c ∈ es.flatten, inR B done c ∨ (o < c ∧ B c 6 < nxC B ty i ∧ c - 20 < B o 6) := fun c hc => (h1 c hc).imp id (fun q => ⟨q.1, by omega, q.2.2⟩)
      split at h
      · rename_i hE
        cases hq : enP B (20 + i) es with
        | none => rw [hq] at h; cases h
        | some e2 =>
          rw [hq] at h
          have hs6 : B (20 + i) 6 < nxC B ty i := by
            unfold nxC
            rcases hE with q | q | q
            · have := (hP.2.2 (20 + i) hsr.1 hsr.2).2.1 (Or.inl q)
              repeat (first | omega | split)
            · rw [if_pos (Or.inl q)]; split <;> omega
            · have := (hP.2.2 (20 + i) hsr.1 hsr.2).2.1 (Or.inr q)
              repeat (first | omega | split)
          have hni : 20 + i ∉ es.flatten := fun hc => by
            rcases h1 _ hc with w | w
            · exact h4 _ w ⟨by omega, by omega⟩
            · have := (hP.2.1 (20 + i) (by omega) hsr.2).1
              omega
          obtain ⟨r1, r2⟩ := ih _ e2 es' (by omega) (fun c hc => by
            rcases enP_fl es e2 hq c hc with w | w
            · exact old c w
            · rw [w]; exact Or.inr ⟨by omega, hs6, by omega⟩) (EPC_en h2 hni hq) h
          refine ⟨r1, fun c hc => ?_⟩
          rcases r2 c hc with w | w
          · exact Or.inl w
          · rcases enP_fl es e2 hq c w with w | w
            · exact Or.inr w
            · rw [w]; exact Or.inl hE
      · exact ih _ es es' (by omega) old h2 h
theorem cO_ep {B : Mem} {z : Int} (hP : PLN B z) {ty : Int} {sets : List Int} (hs : inP z sets) (h4 : ∀ done p cs, sets = done ++ p :: cs → ∀ c : Int, inR B done c → ¬ (p < c ∧ c - 20 < B p 6)) : ∀ (cs done : List Int) (es es' : List (List Int)), sets = done ++ cs → (∀ c ∈ es.flatten, isEP B c ∧ inR B done c) → AC B es.flatten → EPC B es → cO B ty cs es = some es' → EPC B es' := by
  intro cs
  induction cs with
  | nil => intro done es es' hsp h1 h2 h3 h; cases h; exact h3
  | cons p cs ih =>
    intro done es es' hsp h1 h2 h3 h
    unfold cO at h
    cases hq : cI B ty (B p 6) 61 (p - 20 + 1) es with
    | none => rw [hq] at h; cases h
    | some e2 =>
      rw [hq] at h
      have hp := hs p (by rw [hsp]; exact List.mem_append_right _ List.mem_cons_self)
      obtain ⟨k1, k2⟩ := cI_ac hP hp (fun q hq => hs q (by rw [hsp]; exact List.mem_append_left _ hq)) (h4 done p cs hsp) 61 _ es e2 (by omega) (fun c hc => ⟨(h1 c hc).1, Or.inl (h1 c hc).2⟩) h2 hq
      obtain ⟨k3, -⟩ := cI_ep hP hp (h4 done p cs hsp) 61 _ es e2 (by omega) (fun c hc => Or.inl (h1 c hc).2) h3 hq
      exact ih (done ++ [p]) e2 es' (by rw [hsp]; simp) k1 k2 k3 h
/-- SETS beside each other -/
def SETP (B : Mem) (z : Int) (sets : List Int) : Prop := inP z sets ∧ AC B sets ∧ sets.Nodup
theorem SETP_h4 {B : Mem} {z : Int} {sets : List Int} (h : SETP B z sets) : ∀ done p cs, sets = done ++ p :: cs → ∀ c : Int, inR B done c → ¬ (p < c ∧ c - 20 < B p 6) := by
  intro done p cs hsp c hi hcc
  obtain ⟨r, r1, r2, r3⟩ := hi
  have hr : r ∈ sets := by rw [hsp]; exact List.mem_append_left _ r1
  have hp : p ∈ sets := by rw [hsp]; exact List.mem_append_right _ List.mem_cons_self
  have hn := h.2.2
  rw [hsp, List.nodup_append] at hn
  have hne : r ≠ p := hn.2.2 r r1 p List.mem_cons_self
  have a1 := h.2.1 r hr p hp
  have a2 := h.2.1 p hp r hr
  omega
theorem cO_full {B : Mem} {z : Int} (hP : PLN B z) {ty : Int} {sets : List Int} (hs : SETP B z sets) {es : List (List Int)} (h : cO B ty sets [] = some es) : EPC B es ∧ (∀ c ∈ es.flatten, isEP B c ∧ inR B sets c) ∧ AC B es.flatten := by
  have h4 := SETP_h4 hs
  have h1 := cO_ac hP (ty := ty) hs.1 h4 sets [] [] es rfl (fun c hc => by simp at hc) (fun p hp => by simp at hp) h
  exact ⟨cO_ep hP (ty := ty) hs.1 h4 sets [] [] es rfl (fun c hc => by simp at hc) (fun p hp => by simp at hp) EPC_0 h, h1⟩
theorem cO_set {B : Mem} {z : Int} (hP : PLN B z) {ty : Int} {sets : List Int} (hs : SETP B z sets) {es : List (List Int)} (h : cO B ty sets [] = some es) {e : List Int} (he : e ∈ es) : SETP B z e := by
  obtain ⟨h1, h2, h3⟩ := cO_full hP hs h
  have fl : ∀ c ∈ e, c ∈ es.flatten := fun c hc => List.mem_flatten.mpr ⟨e, he, hc⟩
  refine ⟨fun c hc => ?_, fun p hp c hc => h3 p (fl p hp) c (fl c hc), fl_nodup h1.2.1 he⟩
  have := inR_rg hP hs.1 (h2 c (fl c hc)).2
  omega
theorem fl_len {B : Mem} {z : Int} (hP : PLN B z) {es : List (List Int)} (hn : es.flatten.Nodup) (hr : ∀ c ∈ es.flatten, 20 < c ∧ c < 20 + z) : es.flatten.length ≤ 60 := by
  exact nodup_lo 21 60 _ hn (fun x hx => by
    have := hr x hx
    have := hP.1
    omega)
theorem nm_len {B : Mem} {es : List (List Int)} (h : EPC B es) (hr : ∀ c ∈ es.flatten, 0 ≤ B c 2 ∧ B c 2 ≤ 9) : es.length ≤ 10 := by
  have h2 := nodup_le 10 _ h.2.2.1 (fun x hx => by
    obtain ⟨e, e1, e2⟩ := List.mem_map.mp hx
    have := hr (hdE e) (List.mem_flatten.mpr ⟨e, e1, hdE_mem (h.1 e e1)⟩)
    omega)
  rw [List.length_map] at h2
  exact h2
