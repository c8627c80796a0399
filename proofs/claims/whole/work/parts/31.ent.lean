-- ===== the ENTRIES of an OBJECT as lists of steps: the step that made it, then those that were merged into it
abbrev hdE (e : List Int) : Int := e.headD 0
def ENT (M : Mem) (es : List (List Int)) : Prop := (∀ e ∈ es, e ≠ [] ∧ nxL M 10 e) ∧ nxL M 9 (es.map hdE) ∧ M 82 2 = (es.map hdE).headD (-1) ∧ M 82 3 = (es.map hdE).getLastD (-1) ∧ es.flatten.Nodup ∧ ∀ c ∈ es.flatten, 20 ≤ c ∧ c < 81
/-- a step comes to the ENTRIES; none: CLASH -/
def enP (M : Mem) (s : Int) : List (List Int) → Option (List (List Int))
  | [] => some [[s]]
  | e :: es => if M (hdE e) 2 = M s 2 then (if M (hdE e) 1 = M s 1 ∧ (M s 1 = 2 ∨ M (hdE e) 3 = M s 3) then some ((e ++ [s]) :: es) else none) else (enP M s es).map (fun q => e :: q)
theorem nxL_eq {M M' : Mem} {sl : Int} : ∀ (L : List Int), (∀ c ∈ L, M' c sl = M c sl) → nxL M sl L → nxL M' sl L
  | [], _, _ => trivial
  | [c], h, q => by
    have q : M c sl < 0 := q
    show M' c sl < 0
    rw [h c List.mem_cons_self]; exact q
  | c :: d :: r, h, q => by
    have q : M c sl = d ∧ nxL M sl (d :: r) := q
    exact ⟨by rw [h c List.mem_cons_self]; exact q.1, nxL_eq (d :: r) (fun x hx => h x (List.mem_cons_of_mem _ hx)) q.2⟩
theorem getLastD_mem : ∀ (L : List Int) (d : Int), L ≠ [] → L.getLastD d ∈ L
  | [], _, h => absurd rfl h
  | [c], d, _ => by simp
  | c :: e :: r, d, _ => by
    have := getLastD_mem (e :: r) d (by simp)
    simp only [List.getLastD_cons] at this ⊢
    exact List.mem_cons_of_mem _ this
theorem nxL_snoc {M : Mem} {sl s : Int} (hs : M s sl < 0) : ∀ (L : List Int), L.Nodup → L ≠ [] → s ∉ L → nxL M sl L → nxL (up M (L.getLastD 0) sl s) sl (L ++ [s])
  | [], _, h, _, _ => absurd rfl h
  | [c], _, _, hn, _ => by
    have hsc : s ≠ c := fun q => hn (by rw [q]; exact List.mem_cons_self)
    show up M c sl s c sl = s ∧ up M c sl s s sl < 0
    exact ⟨up_eq _ _ _ _, by rw [up_nc hsc]; exact hs⟩
  | c :: d :: r, hd, _, hn, h => by
    have h : M c sl = d ∧ nxL M sl (d :: r) := h
    have hd2 := List.nodup_cons.mp hd
    have ih := nxL_snoc hs (d :: r) hd2.2 (by simp) (fun q => hn (List.mem_cons_of_mem _ q)) h.2
    have hl : (c :: d :: r).getLastD 0 = (d :: r).getLastD 0 := by simp
    rw [hl]
    have hm := getLastD_mem (d :: r) 0 (by simp)
    refine ⟨?_, ih⟩
    rw [up_nc (fun q => hd2.1 (by rw [q]; exact hm))]
    exact h.1
theorem hdE_mem {e : List Int} (h : e ≠ []) : hdE e ∈ e := by
  cases e with
  | nil => exact absurd rfl h
  | cons c r => simp
theorem heads_nodup : ∀ (es : List (List Int)), (∀ e ∈ es, e ≠ []) → es.flatten.Nodup → (es.map hdE).Nodup
  | [], _, _ => by simp
  | e :: es, h, hn => by
    rw [List.flatten_cons, List.nodup_append] at hn
    rw [List.map_cons, List.nodup_cons]
    refine ⟨fun q => ?_, heads_nodup es (fun x hx => h x (List.mem_cons_of_mem _ hx)) hn.2.1⟩
    obtain ⟨e2, h1, h2⟩ := List.mem_map.mp q
    have m1 := hdE_mem (h e List.mem_cons_self)
    have m2 := hdE_mem (h e2 (List.mem_cons_of_mem _ h1))
    exact hn.2.2 (hdE e) m1 (hdE e2) (List.mem_flatten.mpr ⟨e2, h1, m2⟩) h2.symm
theorem heads_in {es : List (List Int)} (h : ∀ e ∈ es, e ≠ []) {c : Int} (hc : c ∈ es.map hdE) : c ∈ es.flatten := by
  obtain ⟨e, h1, rfl⟩ := List.mem_map.mp hc
  exact List.mem_flatten.mpr ⟨e, h1, hdE_mem (h e h1)⟩
theorem ENT_add {M : Mem} {es : List (List Int)} {s : Int} (h : ENT M es) (hs : 20 ≤ s ∧ s < 81) (hn : s ∉ es.flatten) : ENT (adE (up M s 10 (-1)) s) (es ++ [[s]]) := by
  obtain ⟨h1, h2, h3, h4, h5, h6⟩ := h
  have hne : ∀ e ∈ es, e ≠ [] := fun e he => (h1 e he).1
  have hhd := heads_nodup es hne h5
  have e3 : up M s 10 (-1) 82 3 = M 82 3 := up_nc (by omega)
  have key : ∀ (c y : Int), c ≠ 82 → (y ≠ 9 ∧ y ≠ 10 ∨ c ≠ s ∧ c ≠ M 82 3 ∨ c ≠ s ∧ y = 10) → adE (up M s 10 (-1)) s c y = M c y := by
    intro c y hc hy
    unfold adE
    rw [e3]
    by_cases hl : M 82 3 < 0
    · rw [if_pos hl, up_nc hc, up_nc hc]
      unfold up
      rw [if_neg (by omega), if_neg (by omega)]
    · rw [if_neg hl, up_nc hc]
      unfold up
      rw [if_neg (by omega), if_neg (by omega), if_neg (by omega)]
  have k10 : adE (up M s 10 (-1)) s s 10 = -1 := by
    unfold adE
    split
    · rw [up_nc (by omega), up_nc (by omega), up_nk (by decide), up_eq]
    · rw [up_nc (by omega), up_nk (by decide), up_nk (by decide), up_eq]
  have k83 : adE (up M s 10 (-1)) s 82 3 = s := by
    unfold adE
    split <;> rw [up_eq]
  refine ⟨fun e he => ?_, ?_, ?_, ?_, ?_, fun c hc => ?_⟩
  · rcases List.mem_append.mp he with he | he
    · refine ⟨hne e he, nxL_eq e (fun c hc => key c 10 ?_ (Or.inr (Or.inr ⟨fun q => hn ?_, rfl⟩))) (h1 e he).2⟩
      · have := h6 c (List.mem_flatten.mpr ⟨e, he, hc⟩); omega
      · rw [← q]; exact List.mem_flatten.mpr ⟨e, he, hc⟩
    · rw [List.mem_singleton.mp he]
      refine ⟨by simp, ?_⟩
      show adE (up M s 10 (-1)) s s 10 < 0
      rw [k10]; decide
  · rw [List.map_append]
    show nxL _ 9 (es.map hdE ++ [s])
    by_cases he : es = []
    · subst he
      have h4 : M 82 3 = -1 := h4
      show adE (up M s 10 (-1)) s s 9 < 0
      unfold adE
      rw [e3, if_pos (by omega), up_nc (by omega), up_nc (by omega), up_eq]
      decide
    · have hm : es.map hdE ≠ [] := by simpa using he
      have hl := getLastD_mem (es.map hdE) (-1) hm
      have hl2 : (es.map hdE).getLastD (-1) = (es.map hdE).getLastD 0 := by
        cases hq : es.map hdE with
        | nil => exact absurd hq hm
        | cons a r => rw [List.getLastD_cons, List.getLastD_cons]
      rw [← h4] at hl
      have hlr := h6 _ (heads_in hne hl)
      have hsl : M 82 3 ≠ s := fun q => hn (by rw [← q]; exact heads_in hne hl)
      have hA : adE (up M s 10 (-1)) s = up (up (up (up M s 10 (-1)) s 9 (-1)) (M 82 3) 9 s) 82 3 s := by
        unfold adE
        rw [e3, if_neg (by omega)]
      have base : nxL (up (up M s 10 (-1)) s 9 (-1)) 9 (es.map hdE) := nxL_eq _ (fun c hc => by
        have : c ≠ s := fun q => hn (by rw [← q]; exact heads_in hne hc)
        rw [up_nc this, up_nc this]) h2
      have sn := nxL_snoc (M := up (up M s 10 (-1)) s 9 (-1)) (sl := 9) (s := s) (by rw [up_eq]; decide) (es.map hdE) hhd hm (fun q => hn (heads_in hne q)) base
      rw [← hl2, ← h4] at sn
      rw [hA]
      refine nxL_eq _ (fun c hc => up_nc ?_) sn
      rcases List.mem_append.mp hc with hc | hc
      · have := h6 c (heads_in hne hc); omega
      · rw [List.mem_singleton.mp hc]; omega
  · rw [List.map_append]
    by_cases he : es = []
    · subst he
      have h4 : M 82 3 = -1 := h4
      show _ = s
      unfold adE
      rw [e3, if_pos (by omega), up_nk (by decide), up_eq]
    · have hm : es.map hdE ≠ [] := by simpa using he
      have hl := getLastD_mem (es.map hdE) (-1) hm
      rw [← h4] at hl
      have hlr := h6 _ (heads_in hne hl)
      have : adE (up M s 10 (-1)) s 82 2 = M 82 2 := by
        unfold adE
        rw [e3, if_neg (by omega), up_nk (by decide), up_nc (by omega), up_nc (by omega), up_nc (by omega)]
      rw [this, h3]
      cases hq : es.map hdE with
      | nil => exact absurd hq hm
      | cons a r => rfl
  · rw [List.map_append, k83]
    show s = (es.map hdE ++ [s]).getLastD (-1)
    rw [List.getLastD_eq_getLast?, List.getLast?_append]
    rfl
  · rw [List.flatten_append, List.nodup_append]
    refine ⟨h5, by simp, fun a ha b hb => ?_⟩
    have hb : b = s := by simpa using hb
    rw [hb]
    exact fun q => hn (by rw [← q]; exact ha)
  · rw [List.flatten_append] at hc
    rcases List.mem_append.mp hc with hc | hc
    · exact h6 c hc
    · have hc : c = s := by simpa using hc
      rw [hc]; exact hs
theorem ENT_put {M : Mem} {es1 es2 : List (List Int)} {e : List Int} {s : Int} (h : ENT M (es1 ++ e :: es2)) (hs : 20 ≤ s ∧ s < 81) (hn : s ∉ (es1 ++ e :: es2).flatten) : ENT (up (up M s 10 (-1)) (e.getLastD 0) 10 s) (es1 ++ (e ++ [s]) :: es2) := by
  obtain ⟨h1, h2, h3, h4, h5, h6⟩ := h
  have he := h1 e (List.mem_append_right _ List.mem_cons_self)
  have hl := getLastD_mem e 0 he.1
  have fl : ∀ x ∈ es1 ++ e :: es2, ∀ c ∈ x, c ∈ (es1 ++ e :: es2).flatten := fun x hx c hc => List.mem_flatten.mpr ⟨x, hx, hc⟩
  have hle := fl e (List.mem_append_right _ List.mem_cons_self) _ hl
  have hlr := h6 _ hle
  have hhd : hdE (e ++ [s]) = hdE e := by
    cases e with
    | nil => exact absurd rfl he.1
    | cons c r => rfl
  have hmap : (es1 ++ (e ++ [s]) :: es2).map hdE = (es1 ++ e :: es2).map hdE := by rw [List.map_append, List.map_append, List.map_cons, List.map_cons, hhd]
  have h5' := h5
  rw [List.flatten_append, List.flatten_cons, List.nodup_append] at h5'
  obtain ⟨n1, n2, n3⟩ := h5'
  rw [List.nodup_append] at n2
  obtain ⟨n4, n5, n6⟩ := n2
  have hse : s ∉ e := fun q => hn (fl e (List.mem_append_right _ List.mem_cons_self) s q)
  refine ⟨fun x hx => ?_, ?_, ?_, ?_, ?_, fun c hc => ?_⟩
  · have oth : x ∈ es1 ++ e :: es2 → (∀ c ∈ x, c ≠ e.getLastD 0) → x ≠ [] ∧ nxL (up (up M s 10 (-1)) (e.getLastD 0) 10 s) 10 x := by
      intro hx2 hd
      refine ⟨(h1 x hx2).1, nxL_eq x (fun c hc => ?_) (h1 x hx2).2⟩
      rw [up_nc (hd c hc), up_nc (fun q => hn (by rw [← q]; exact fl x hx2 c hc))]
    rcases List.mem_append.mp hx with hx | hx
    · exact oth (List.mem_append_left _ hx) (fun c hc q => n3 c (List.mem_flatten.mpr ⟨x, hx, hc⟩) (e.getLastD 0) (List.mem_append_left _ hl) q)
    · rcases List.mem_cons.mp hx with rfl | hx
      · refine ⟨by simp, nxL_snoc (by rw [up_eq]; decide) e n4 he.1 hse (nxL_eq e (fun c hc => up_nc (fun q => hse (by rw [← q]; exact hc))) he.2)⟩
      · exact oth (List.mem_append_right _ (List.mem_cons_of_mem _ hx)) (fun c hc q => n6 (e.getLastD 0) hl c (List.mem_flatten.mpr ⟨x, hx, hc⟩) q.symm)
  · rw [hmap]
    exact nxL_eq _ (fun c hc => by rw [up_nk (by decide), up_nk (by decide)]) h2
  · rw [hmap, up_nc (by omega), up_nc (by omega)]; exact h3
  · rw [hmap, up_nc (by omega), up_nc (by omega)]; exact h4
  · rw [List.flatten_append, List.flatten_cons, List.nodup_append, List.nodup_append, List.nodup_append]
    refine ⟨n1, ⟨⟨n4, by simp, fun a ha b hb => ?_⟩, n5, fun a ha b hb => ?_⟩, fun a ha b hb => ?_⟩
    · have hb : b = s := by simpa using hb
      rw [hb]; exact fun q => hse (by rw [← q]; exact ha)
    · rcases List.mem_append.mp ha with ha | ha
      · exact n6 a ha b hb
      · have ha : a = s := by simpa using ha
        rw [ha]
        intro q
        apply hn
        rw [q, List.flatten_append, List.flatten_cons]
        exact List.mem_append_right _ (List.mem_append_right _ hb)
    · rcases List.mem_append.mp hb with hb | hb
      · rcases List.mem_append.mp hb with hb | hb
        · exact n3 a ha b (List.mem_append_left _ hb)
        · have hb : b = s := by simpa using hb
          rw [hb]
          intro q
          apply hn
          rw [← q, List.flatten_append]
          exact List.mem_append_left _ ha
      · exact n3 a ha b (List.mem_append_right _ hb)
  · rw [List.flatten_append, List.flatten_cons] at hc
    rcases List.mem_append.mp hc with hc | hc
    · exact h6 c (by rw [List.flatten_append]; exact List.mem_append_left _ hc)
    · rcases List.mem_append.mp hc with hc | hc
      · rcases List.mem_append.mp hc with hc | hc
        · exact h6 c (fl e (List.mem_append_right _ List.mem_cons_self) c hc)
        · have hc : c = s := by simpa using hc
          rw [hc]; exact hs
      · exact h6 c (by rw [List.flatten_append, List.flatten_cons]; exact List.mem_append_right _ (List.mem_append_right _ hc))
/-- what entryNamed finds, and what becomes of the ENTRIES -/
theorem enP_cases (M : Mem) (s : Int) : ∀ es : List (List Int), (fndN M (M s 2) (es.map hdE) = -1 ∧ enP M s es = some (es ++ [[s]])) ∨ ∃ es1 e es2, es = es1 ++ e :: es2 ∧ fndN M (M s 2) (es.map hdE) = hdE e ∧ enP M s es = if M (hdE e) 1 = M s 1 ∧ (M s 1 = 2 ∨ M (hdE e) 3 = M s 3) then some (es1 ++ (e ++ [s]) :: es2) else none
  | [] => Or.inl ⟨rfl, rfl⟩
  | e :: es => by
    by_cases h : M (hdE e) 2 = M s 2
    · refine Or.inr ⟨[], e, es, rfl, ?_, ?_⟩
      · rw [List.map_cons, fndN_c, if_pos h]
      · unfold enP
        rw [if_pos h]
        rfl
    · rcases enP_cases M s es with ⟨h1, h2⟩ | ⟨es1, e2, es2, h1, h2, h3⟩
      · refine Or.inl ⟨by rw [List.map_cons, fndN_c, if_neg h]; exact h1, ?_⟩
        unfold enP
        rw [if_neg h, h2]
        rfl
      · refine Or.inr ⟨e :: es1, e2, es2, by rw [h1]; rfl, by rw [List.map_cons, fndN_c, if_neg h]; exact h2, ?_⟩
        unfold enP
        rw [if_neg h, h3]
        split <;> rfl
