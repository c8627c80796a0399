-- ===== the reference: take
theorem getD_l {α : Type} {L R : List α} {k : Nat} {d : α} (h : k < L.length) : (L ++ R).getD k d = L.getD k d := by
  simp only [List.getD_eq_getElem?_getD]
  rw [List.getElem?_append_left h]
theorem getD_e {α : Type} {L R : List α} {x d : α} : (L ++ x :: R).getD L.length d = x := by
  simp only [List.getD_eq_getElem?_getD]
  rw [List.getElem?_append_right (Nat.le_refl _), Nat.sub_self]
  rfl
theorem getD_n {α : Type} {L R : List α} {x y d : α} {k : Nat} (h : k ≠ L.length) : (L ++ x :: R).getD k d = (L ++ y :: R).getD k d := by
  by_cases q : k < L.length
  · rw [getD_l q, getD_l q]
  · simp only [List.getD_eq_getElem?_getD]
    rw [List.getElem?_append_right (by omega), List.getElem?_append_right (by omega)]
    obtain ⟨a, ha⟩ : ∃ a, k - L.length = a + 1 := ⟨k - L.length - 1, by omega⟩
    rw [ha]
    rfl
/-- the ENTRIES of level j stand in the reference's arrays; tk: where the SET behind a step begins -/
def RL (B : Mem) (tk : Int → Int) (N : Mem) (j : Int) (es : List (List Int)) (SL : List (Int × Nat)) : Prop := (N 103 j = (es.length : Int) ∧ ∀ k : Nat, k < es.length → N 104 (10 * j + (k : Int)) = B (hdE (es.getD k [])) 2 ∧ N 105 (10 * j + (k : Int)) = B (hdE (es.getD k [])) 1 ∧ (B (hdE (es.getD k [])) 1 ≠ 2 → N 106 (10 * j + (k : Int)) = B (hdE (es.getD k [])) 3)) ∧ N 107 j = (SL.length : Int) ∧ ∀ a : Nat, a < SL.length → N 108 (64 * j + (a : Int)) = tk (SL.getD a (0, 0)).1 ∧ N 109 (64 * j + (a : Int)) = ((SL.getD a (0, 0)).2 : Int)
/-- the steps of an ENTRY stand there in their order -/
def SLR (B : Mem) (es : List (List Int)) (SL : List (Int × Nat)) : Prop := (∀ k : Nat, k < es.length → B (hdE (es.getD k [])) 1 = 1 → (SL.filter (fun p => p.2 == k)).map Prod.fst = es.getD k []) ∧ (∀ p ∈ SL, p.2 < es.length) ∧ SL.length ≤ es.flatten.length
def fC (j : Int) (N N' : Mem) : Prop := ∀ c y : Int, ¬ (c = 99 ∨ c = 100 ∨ (c = 88 ∧ y = 13) ∨ ((c = 103 ∨ c = 107) ∧ y = j) ∨ ((c = 104 ∨ c = 105 ∨ c = 106) ∧ 10 * j ≤ y) ∨ ((c = 108 ∨ c = 109) ∧ 64 * j ≤ y)) → N' c y = N c y
theorem fC_r {j : Int} {N : Mem} : fC j N N := fun _ _ _ => rfl
theorem fC_t {j : Int} {N N' N'' : Mem} (h : fC j N N') (h' : fC j N' N'') : fC j N N'' := fun c y q => by rw [h' c y q, h c y q]
theorem RL_add {B : Mem} {tk : Int → Int} {N : Mem} {j : Int} {es : List (List Int)} {SL : List (Int × Nat)} {s w : Int} (h : RL B tk N j es SL) (hw : B s 1 ≠ 2 → w = B s 3) : RL B tk (up (up (up (up N 104 (10 * j + (es.length : Int)) (B s 2)) 105 (10 * j + (es.length : Int)) (B s 1)) 106 (10 * j + (es.length : Int)) w) 103 j ((es.length : Int) + 1)) j (es ++ [[s]]) SL := by
  obtain ⟨⟨h1, h2⟩, h3, h4⟩ := h
  refine ⟨⟨?_, fun k hk => ?_⟩, ?_, fun a ha => ?_⟩
  · rw [up_eq]; simp
  · simp only [List.length_append, List.length_cons, List.length_nil] at hk
    by_cases q : k = es.length
    · subst q
      rw [getD_e]
      refine ⟨?_, ?_, fun z => ?_⟩
      · rw [up_nc (by decide), up_nc (by decide), up_nc (by decide), up_eq]; rfl
      · rw [up_nc (by decide), up_nc (by decide), up_eq]; rfl
      · rw [up_nc (by decide), up_eq]; exact hw z
    · rw [getD_l (by omega)]
      have h5 := h2 k (by omega)
      refine ⟨?_, ?_, fun z => ?_⟩
      · rw [up_nc (by decide), up_nc (by decide), up_nc (by decide), up_nk (by omega)]; exact h5.1
      · rw [up_nc (by decide), up_nc (by decide), up_nk (by omega), up_nc (by decide)]; exact h5.2.1
      · rw [up_nc (by decide), up_nk (by omega), up_nc (by decide), up_nc (by decide)]; exact h5.2.2 z
  · rw [up_nc (by decide), up_nc (by decide), up_nc (by decide), up_nc (by decide)]; exact h3
  · rw [up_nc (by decide), up_nc (by decide), up_nc (by decide), up_nc (by decide), up_nc (by decide), up_nc (by decide), up_nc (by decide), up_nc (by decide)]; exact h4 a ha
theorem RL_put {B : Mem} {tk : Int → Int} {N : Mem} {j : Int} {es1 es2 : List (List Int)} {e : List Int} {SL : List (Int × Nat)} {s : Int} (he : e ≠ []) (h : RL B tk N j (es1 ++ e :: es2) SL) : RL B tk N j (es1 ++ (e ++ [s]) :: es2) SL := by
  obtain ⟨⟨h1, h2⟩, h3, h4⟩ := h
  refine ⟨⟨by rw [h1]; simp, fun k hk => ?_⟩, h3, h4⟩
  have h5 := h2 k (by simp at hk ⊢; omega)
  by_cases q : k = es1.length
  · subst q
    rw [getD_e] at h5 ⊢
    rw [hdE_app he]
    exact h5
  · rw [getD_n (y := e) q]
    exact h5
theorem RL_set {B : Mem} {tk : Int → Int} {N : Mem} {j : Int} {es : List (List Int)} {SL : List (Int × Nat)} {s i : Int} {k : Nat} (h : RL B tk N j es SL) (hi : i = tk s) : RL B tk (up (up (up N 108 (64 * j + N 107 j) i) 109 (64 * j + N 107 j) (k : Int)) 107 j (N 107 j + 1)) j es (SL ++ [(s, k)]) := by
  obtain ⟨⟨h1, h2⟩, h3, h4⟩ := h
  refine ⟨⟨?_, fun k hk => ?_⟩, ?_, fun a ha => ?_⟩
  · rw [up_nc (by decide), up_nc (by decide), up_nc (by decide)]; exact h1
  · simp only [up_nc (c' := 104) (c := 107) (by decide), up_nc (c' := 104) (c := 109) (by decide), up_nc (c' := 104) (c := 108) (by decide), up_nc (c' := 105) (c := 107) (by decide), up_nc (c' := 105) (c := 109) (by decide), up_nc (c' := 105) (c := 108) (by decide), up_nc (c' := 106) (c := 107) (by decide), up_nc (c' := 106) (c := 109) (by decide), up_nc (c' := 106) (c := 108) (by decide)]
    exact h2 k hk
  · rw [up_eq, h3]; simp
  · simp only [List.length_append, List.length_cons, List.length_nil] at ha
    rw [up_nc (c := 107) (by decide), up_nc (c := 107) (by decide), up_nc (c := 109) (c' := 108) (by decide), h3]
    by_cases q : a = SL.length
    · subst q
      rw [getD_e, up_eq, up_eq]
      exact ⟨hi, rfl⟩
    · rw [getD_l (by omega), up_nk (by omega), up_nk (by omega), up_nc (by decide)]
      exact h4 a (by omega)
theorem flt_none {SL : List (Int × Nat)} {n : Nat} (h : ∀ p ∈ SL, p.2 < n) : SL.filter (fun p => p.2 == n) = [] := by
  rw [List.filter_eq_nil_iff]
  intro p hp
  have := h p hp
  simp
  omega
theorem SLR_add {B : Mem} {es : List (List Int)} {SL : List (Int × Nat)} {s : Int} (h : SLR B es SL) : (B s 1 ≠ 1 → SLR B (es ++ [[s]]) SL) ∧ SLR B (es ++ [[s]]) (SL ++ [(s, es.length)]) := by
  obtain ⟨h1, h2, h3⟩ := h
  refine ⟨fun hs => ⟨fun k hk hb => ?_, fun p hp => ?_, ?_⟩, fun k hk hb => ?_, fun p hp => ?_, ?_⟩
  · simp only [List.length_append, List.length_cons, List.length_nil] at hk
    by_cases q : k = es.length
    · subst q
      rw [getD_e] at hb
      exact absurd hb hs
    · rw [getD_l (by omega)] at hb ⊢
      exact h1 k (by omega) hb
  · have := h2 p hp
    simp; omega
  · rw [List.flatten_append, List.length_append]; omega
  · simp only [List.length_append, List.length_cons, List.length_nil] at hk
    rw [List.filter_append, List.map_append]
    by_cases q : k = es.length
    · subst q
      rw [getD_e, flt_none h2]
      simp
    · rw [getD_l (by omega)] at hb ⊢
      rw [h1 k (by omega) hb]
      have : ((s, es.length) :: ([] : List (Int × Nat))).filter (fun p => p.2 == k) = [] := by
        simp; omega
      rw [this]
      simp
  · rcases List.mem_append.mp hp with hp | hp
    · have := h2 p hp
      simp; omega
    · simp at hp
      rw [hp]; simp
  · rw [List.flatten_append, List.length_append, List.length_append]
    have e1 : ([[s]] : List (List Int)).flatten.length = 1 := rfl
    have e2 : [(s, es.length)].length = 1 := rfl
    omega
theorem SLR_put {B : Mem} {es1 es2 : List (List Int)} {e : List Int} {SL : List (Int × Nat)} {s : Int} (he : e ≠ []) (h : SLR B (es1 ++ e :: es2) SL) : (B (hdE e) 1 ≠ 1 → SLR B (es1 ++ (e ++ [s]) :: es2) SL) ∧ SLR B (es1 ++ (e ++ [s]) :: es2) (SL ++ [(s, es1.length)]) := by
  obtain ⟨h1, h2, h3⟩ := h
  have hl : (es1 ++ (e ++ [s]) :: es2).length = (es1 ++ e :: es2).length := by simp
  have hfl : (es1 ++ (e ++ [s]) :: es2).flatten.length = (es1 ++ e :: es2).flatten.length + 1 := by simp; omega
  refine ⟨fun hs => ⟨fun k hk hb => ?_, fun p hp => by rw [hl]; exact h2 p hp, by omega⟩, fun k hk hb => ?_, fun p hp => ?_, ?_⟩
  · rw [hl] at hk
    by_cases q : k = es1.length
    · subst q
      rw [getD_e, hdE_app he] at hb
      exact absurd hb hs
    · rw [getD_n (y := e) q] at hb ⊢
      exact h1 k hk hb
  · rw [hl] at hk
    rw [List.filter_append, List.map_append]
    by_cases q : k = es1.length
    · subst q
      rw [getD_e, hdE_app he] at hb
      have h4 := h1 es1.length hk (by rw [getD_e]; exact hb)
      rw [getD_e] at h4 ⊢
      rw [h4]
      simp
    · rw [getD_n (y := e) q] at hb ⊢
      rw [h1 k hk hb]
      have : ((s, es1.length) :: ([] : List (Int × Nat))).filter (fun p => p.2 == k) = [] := by
        simp; omega
      rw [this]
      simp
  · rw [hl]
    rcases List.mem_append.mp hp with hp | hp
    · exact h2 p hp
    · simp at hp
      rw [hp]; simp
  · rw [hfl, List.length_append]
    have e2 : [(s, es1.length)].length = 1 := rfl
    omega
theorem up_nc_or {M : Mem} {c k v c' k' : Int} (h : c' ≠ c ∨ k' ≠ k) : up M c k v c' k' = M c' k' := by
  unfold up
  rw [if_neg]
  omega
theorem spl_eq {B : Mem} {s : Int} : ∀ {a1 : List (List Int)} {e : List Int} {a2 : List (List Int)} {b1 : List (List Int)} {f : List Int} {b2 : List (List Int)}, (∀ x ∈ a1, B (hdE x) 2 ≠ B s 2) → B (hdE e) 2 = B s 2 → (∀ x ∈ b1, B (hdE x) 2 ≠ B s 2) → B (hdE f) 2 = B s 2 → a1 ++ e :: a2 = b1 ++ f :: b2 → b1 = a1 ∧ f = e ∧ b2 = a2
  | [], e, a2, [], f, b2, _, _, _, _, h => by simp at h; exact ⟨rfl, h.1.symm, h.2.symm⟩
  | [], e, a2, y :: b1, f, b2, _, he, hb, _, h => by
    simp at h
    exact absurd he (by rw [h.1]; exact hb y List.mem_cons_self)
  | x :: a1, e, a2, [], f, b2, ha, _, _, hf, h => by
    simp at h
    exact absurd hf (by rw [← h.1]; exact ha x List.mem_cons_self)
  | x :: a1, e, a2, y :: b1, f, b2, ha, he, hb, hf, h => by
    simp at h
    obtain ⟨r1, r2, r3⟩ := spl_eq (fun z hz => ha z (List.mem_cons_of_mem _ hz)) he (fun z hz => hb z (List.mem_cons_of_mem _ hz)) hf h.2
    exact ⟨by rw [r1, h.1], r2, r3⟩
set_option maxHeartbeats 4000000 in
theorem k_Mo_take (l : Launch) (n : Nat) (M : Mem) (hn : 117 ≤ n) (B : Mem) (tk : Int → Int) (j i s : Int) (es : List (List Int)) (SL : List (Int × Nat)) (hj : 0 ≤ j ∧ j ≤ 13) (hi : 0 ≤ i ∧ i ≤ 63) (h96 : M 96 i = B s 1) (h97 : M 97 i = B s 2) (h98 : M 98 i = B s 3) (hRL : RL B tk M j es SL) (hSL : SLR B es SL) (hl10 : es.length ≤ 10) (hl60 : es.flatten.length ≤ 60) (htk : B s 1 = 1 → i + 1 = tk s) (hne : ∀ e ∈ es, e ≠ []) : AX l m_Mo_take 2 [.inr 88, .inl j, .inl i] n M (fun v N' => ((enP B s es = none → v = 0) ∧ ∀ es', enP B s es = some es' → v = 1 ∧ ∃ SL', RL B tk N' j es' SL' ∧ SLR B es' SL') ∧ (v = 0 ∨ v = 1) ∧ fC j M N' ∧ N' 88 13 = M 88 13 ∧ ∀ y : Int, N' 100 y = M 100 y) := by
  refine AM_intro (by decide) (Nat.le_of_ble_eq_true rfl) (fun X b0 D hC _ => ?_)
  show AW X b0 D true 0 0 _ n M 0 [some (.inr 88), some (.inl j), some (.inl i), none, none] []
  have hlS : SL.length ≤ 60 := Nat.le_trans hSL.2.2 hl60
  show AW X b0 D true 0 0 (fx_Q X b0 D true 0 0 (fun r' n' M' => n' = n ∧ ∃ v : Int, r' = some (.inl v) ∧ (((enP B s es = none → v = 0) ∧ ∀ es', enP B s es = some es' → v = 1 ∧ ∃ SL', RL B tk M' j es' SL' ∧ SLR B es' SL') ∧ (v = 0 ∨ v = 1) ∧ fC j M M' ∧ M' 88 13 = M 88 13 ∧ ∀ y : Int, M' 100 y = M 100 y))) n M 0 [some (.inr 88), some (.inl j), some (.inl i), none, none] []
  have tail : ∀ (N : Mem) (k : Nat) (o b3 : Int) (es2 : List (List Int)), fC j M N → (N 88 13 = M 88 13 ∧ ∀ y : Int, N 100 y = M 100 y) → k ≤ 10 → N 107 j = M 107 j → N 105 (10 * j + (k : Int)) = o → (o ≠ 2 → N 106 (10 * j + (k : Int)) = b3) → (¬ (o = B s 1 ∧ (B s 1 = 2 ∨ b3 = B s 3)) → enP B s es = none) → ((o = B s 1 ∧ (B s 1 = 2 ∨ b3 = B s 3)) → enP B s es = some es2 ∧ RL B tk N j es2 SL ∧ (B s 1 ≠ 1 → SLR B es2 SL) ∧ SLR B es2 (SL ++ [(s, k)])) → AW X b0 D true 0 0 (fx_Q X b0 D true 0 0 (fun r' n' M' => n' = n ∧ ∃ v : Int, r' = some (.inl v) ∧ (((enP B s es = none → v = 0) ∧ ∀ es', enP B s es = some es' → v = 1 ∧ ∃ SL', RL B tk M' j es' SL' ∧ SLR B es' SL') ∧ (v = 0 ∨ v = 1) ∧ fC j M M' ∧ M' 88 13 = M 88 13 ∧ ∀ y : Int, M' 100 y = M 100 y))) n N 119 [some (.inr 88), some (.inl j), some (.inl i), some (.inl ((k : Int))), some (.inl (10 * j + (k : Int)))] [] := by
    intro N k o b3 es2 hf hzk hk10 h107 h105 h106 hno hyes
    have g96 : N 96 i = B s 1 := by rw [hf 96 i (by omega)]; exact h96
    have g98 : N 98 i = B s 3 := by rw [hf 98 i (by omega)]; exact h98
    have h107' : N 107 j = (SL.length : Int) := by rw [h107]; exact hRL.2.1
    have no : ¬ (o = B s 1 ∧ (B s 1 = 2 ∨ b3 = B s 3)) → n = n ∧ ∃ v : Int, (some (Sum.inl 0) : Option AV) = some (.inl v) ∧ (((enP B s es = none → v = 0) ∧ ∀ es', enP B s es = some es' → v = 1 ∧ ∃ SL', RL B tk N j es' SL' ∧ SLR B es' SL') ∧ (v = 0 ∨ v = 1) ∧ fC j M N ∧ N 88 13 = M 88 13 ∧ ∀ y : Int, N 100 y = M 100 y) := fun q => ⟨rfl, 0, rfl, ⟨fun _ => rfl, fun es' he => by rw [hno q] at he; cases he⟩, Or.inl rfl, hf, hzk.1, hzk.2⟩
    refine A_ald0 hC d_Mo_take_119 ?_
    refine A_getCR (v := 105) hC d_Mo_take_120 fF_Mo_63 ⟨by decide, rfl⟩ ly_88 (by omega) ⟨rfl, by decide⟩ cv_88_21 ?_
    refine A_ild4 hC d_Mo_take_123 ?_
    refine A_iald hC d_Mo_take_125 ly_105 (by omega) (by omega) ?_
    refine A_eqi h105 ?_
    refine A_ald0 hC d_Mo_take_126 ?_
    refine A_getCR (v := 96) hC d_Mo_take_127 fF_Mo_31 ⟨by decide, rfl⟩ ly_88 (by omega) ⟨rfl, by decide⟩ cv_88_9 ?_
    refine A_ild2 hC d_Mo_take_130 ?_
    refine A_iald hC d_Mo_take_131 ly_96 (by omega) (by omega) ?_
    refine A_eqi g96 ?_
    refine A_icmpne (tgt := 161) hC d_Mo_take_132 (by decide) (fun h132 => ?_) (fun h132 => ?_)
    · refine A_iconst hC d_Mo_take_161 (by decide) ?_
      refine A_zret hC d_Mo_take_162 rfl (Nat.le_refl _) (Nat.le_refl _) (by first | decide | omega) ?_
      exact no (by omega)
    · refine A_ald0 hC d_Mo_take_135 ?_
      refine A_getCR (v := 96) hC d_Mo_take_136 fF_Mo_31 ⟨by decide, rfl⟩ ly_88 (by omega) ⟨rfl, by decide⟩ cv_88_9 ?_
      refine A_ild2 hC d_Mo_take_139 ?_
      refine A_iald hC d_Mo_take_140 ly_96 (by omega) (by omega) ?_
      refine A_eqi g96 ?_
      refine A_iconst hC d_Mo_take_141 (by decide) ?_
      refine A_icmpeq (tgt := 163) hC d_Mo_take_142 (by decide) (fun h142 => ?_) (fun h142 => ?_)
      · refine A_ald0 hC d_Mo_take_163 ?_
        refine A_getCR (v := 96) hC d_Mo_take_164 fF_Mo_31 ⟨by decide, rfl⟩ ly_88 (by omega) ⟨rfl, by decide⟩ cv_88_9 ?_
        refine A_ild2 hC d_Mo_take_167 ?_
        refine A_iald hC d_Mo_take_168 ly_96 (by omega) (by omega) ?_
        refine A_eqi g96 ?_
        refine A_iconst hC d_Mo_take_169 (by decide) ?_
        refine A_icmpne (tgt := 182) hC d_Mo_take_170 (by decide) (fun h170 => ?_) (fun h170 => ?_)
        · refine A_iconst hC d_Mo_take_182 (by decide) ?_
          refine A_zret hC d_Mo_take_183 rfl (Nat.le_refl _) (Nat.le_refl _) (by first | decide | omega) ?_
          obtain ⟨y1, y2, y3, y4⟩ := hyes (by omega)
          refine ⟨rfl, 1, rfl, ⟨fun q => absurd (y1.symm.trans q) (by simp), fun es' he => ?_⟩, Or.inr rfl, hf, hzk.1, hzk.2⟩
          rw [y1] at he
          cases he
          exact ⟨rfl, _, y2, y3 (by omega)⟩
        · refine A_ald0 hC d_Mo_take_173 ?_
          refine A_ild1 hC d_Mo_take_174 ?_
          refine A_ild3 hC d_Mo_take_175 ?_
          refine A_ild2 hC d_Mo_take_176 ?_
          refine A_iconst hC d_Mo_take_177 (by decide) ?_
          refine A_iadd hC d_Mo_take_178 (by omega) ?_
          refine A_VF0 (as := [.inl j, .inl ((k : Int)), .inl (i + 1)]) hC d_Mo_take_179 mv_Mo_addSet lk_Mo_147 (by decide) sel_Mo_addSet hq_Mo ly_88 (by omega) (k_Mo_addSet l n N hn j (k : Int) (i + 1) (by omega) (by omega)) rfl rfl (Nat.le_of_ble_eq_true rfl) ⟨Nat.zero_le _, Nat.zero_le _⟩ rfl ?_
          refine A_iconst hC d_Mo_take_182 (by decide) ?_
          refine A_zret hC d_Mo_take_183 rfl (Nat.le_refl _) (Nat.le_refl _) (by first | decide | omega) ?_
          obtain ⟨y1, y2, y3, y4⟩ := hyes (by omega)
          refine ⟨rfl, 1, rfl, ⟨fun q => absurd (y1.symm.trans q) (by simp), fun es' he => ?_⟩, Or.inr rfl, ?_, ?_, fun y => ?_⟩
          · rw [y1] at he
            cases he
            exact ⟨rfl, _, RL_set y2 (htk (by omega)), y4⟩
          · refine fC_t hf (fun c y q => ?_)
            rw [h107']
            rw [up_nc_or (by omega), up_nc_or (by omega), up_nc_or (by omega)]
          · rw [up_nc (by decide), up_nc (by decide), up_nc (by decide)]; exact hzk.1
          · rw [up_nc (by decide), up_nc (by decide), up_nc (by decide)]; exact hzk.2 y
      · refine A_ald0 hC d_Mo_take_145 ?_
        refine A_getCR (v := 106) hC d_Mo_take_146 fF_Mo_66 ⟨by decide, rfl⟩ ly_88 (by omega) ⟨rfl, by decide⟩ cv_88_22 ?_
        refine A_ild4 hC d_Mo_take_149 ?_
        refine A_iald hC d_Mo_take_151 ly_106 (by omega) (by omega) ?_
        refine A_eqi (h106 (by omega)) ?_
        refine A_ald0 hC d_Mo_take_152 ?_
        refine A_getCR (v := 98) hC d_Mo_take_153 fF_Mo_37 ⟨by decide, rfl⟩ ly_88 (by omega) ⟨rfl, by decide⟩ cv_88_11 ?_
        refine A_ild2 hC d_Mo_take_156 ?_
        refine A_iald hC d_Mo_take_157 ly_98 (by omega) (by omega) ?_
        refine A_eqi g98 ?_
        refine A_icmpeq (tgt := 163) hC d_Mo_take_158 (by decide) (fun h158 => ?_) (fun h158 => ?_)
        · refine A_ald0 hC d_Mo_take_163 ?_
          refine A_getCR (v := 96) hC d_Mo_take_164 fF_Mo_31 ⟨by decide, rfl⟩ ly_88 (by omega) ⟨rfl, by decide⟩ cv_88_9 ?_
          refine A_ild2 hC d_Mo_take_167 ?_
          refine A_iald hC d_Mo_take_168 ly_96 (by omega) (by omega) ?_
          refine A_eqi g96 ?_
          refine A_iconst hC d_Mo_take_169 (by decide) ?_
          refine A_icmpne (tgt := 182) hC d_Mo_take_170 (by decide) (fun h170 => ?_) (fun h170 => ?_)
          · refine A_iconst hC d_Mo_take_182 (by decide) ?_
            refine A_zret hC d_Mo_take_183 rfl (Nat.le_refl _) (Nat.le_refl _) (by first | decide | omega) ?_
            obtain ⟨y1, y2, y3, y4⟩ := hyes (by omega)
            refine ⟨rfl, 1, rfl, ⟨fun q => absurd (y1.symm.trans q) (by simp), fun es' he => ?_⟩, Or.inr rfl, hf, hzk.1, hzk.2⟩
            rw [y1] at he
            cases he
            exact ⟨rfl, _, y2, y3 (by omega)⟩
          · refine A_ald0 hC d_Mo_take_173 ?_
            refine A_ild1 hC d_Mo_take_174 ?_
            refine A_ild3 hC d_Mo_take_175 ?_
            refine A_ild2 hC d_Mo_take_176 ?_
            refine A_iconst hC d_Mo_take_177 (by decide) ?_
            refine A_iadd hC d_Mo_take_178 (by omega) ?_
            refine A_VF0 (as := [.inl j, .inl ((k : Int)), .inl (i + 1)]) hC d_Mo_take_179 mv_Mo_addSet lk_Mo_147 (by decide) sel_Mo_addSet hq_Mo ly_88 (by omega) (k_Mo_addSet l n N hn j (k : Int) (i + 1) (by omega) (by omega)) rfl rfl (Nat.le_of_ble_eq_true rfl) ⟨Nat.zero_le _, Nat.zero_le _⟩ rfl ?_
            refine A_iconst hC d_Mo_take_182 (by decide) ?_
            refine A_zret hC d_Mo_take_183 rfl (Nat.le_refl _) (Nat.le_refl _) (by first | decide | omega) ?_
            obtain ⟨y1, y2, y3, y4⟩ := hyes (by omega)
            refine ⟨rfl, 1, rfl, ⟨fun q => absurd (y1.symm.trans q) (by simp), fun es' he => ?_⟩, Or.inr rfl, ?_, ?_, fun y => ?_⟩
            · rw [y1] at he
              cases he
              exact ⟨rfl, _, RL_set y2 (htk (by omega)), y4⟩
            · refine fC_t hf (fun c y q => ?_)
              rw [h107']
              rw [up_nc_or (by omega), up_nc_or (by omega), up_nc_or (by omega)]
            · rw [up_nc (by decide), up_nc (by decide), up_nc (by decide)]; exact hzk.1
            · rw [up_nc (by decide), up_nc (by decide), up_nc (by decide)]; exact hzk.2 y
        · refine A_iconst hC d_Mo_take_161 (by decide) ?_
          refine A_zret hC d_Mo_take_162 rfl (Nat.le_refl _) (Nat.le_refl _) (by first | decide | omega) ?_
          exact no (by omega)
  have loop : ∀ (es2 es1 : List (List Int)), es = es1 ++ es2 → (∀ e ∈ es1, B (hdE e) 2 ≠ B s 2) → AW X b0 D true 0 0 (fx_Q X b0 D true 0 0 (fun r' n' M' => n' = n ∧ ∃ v : Int, r' = some (.inl v) ∧ (((enP B s es = none → v = 0) ∧ ∀ es', enP B s es = some es' → v = 1 ∧ ∃ SL', RL B tk M' j es' SL' ∧ SLR B es' SL') ∧ (v = 0 ∨ v = 1) ∧ fC j M M' ∧ M' 88 13 = M 88 13 ∧ ∀ y : Int, M' 100 y = M 100 y))) n M 2 [some (.inr 88), some (.inl j), some (.inl i), some (.inl ((es1.length : Int))), none] [] := by
    intro es2
    induction es2 with
    | nil =>
      intro es1 hsp hnm
      rw [List.append_nil] at hsp
      subst hsp
      have h103 := hRL.1.1
      have hen : enP B s es = some (es ++ [[s]]) := by
        rcases enP_idx B s es with ⟨-, g2⟩ | ⟨es1, e, es2, g1, g2, g3, g4⟩
        · exact g2
        · exact absurd g3 (hnm e (by rw [g1]; exact List.mem_append_right _ List.mem_cons_self))
      refine A_ild3 hC d_Mo_take_2 ?_
      refine A_ald0 hC d_Mo_take_3 ?_
      refine A_getCR (v := 103) hC d_Mo_take_4 fF_Mo_57 ⟨by decide, rfl⟩ ly_88 (by omega) ⟨rfl, by decide⟩ cv_88_19 ?_
      refine A_ild1 hC d_Mo_take_7 ?_
      refine A_iald hC d_Mo_take_8 ly_103 (by omega) (by omega) ?_
      refine A_icmpge (tgt := 38) hC d_Mo_take_9 (by decide) (fun h9 => ?_) (fun h9 => ?_)
      · refine A_bipush hC d_Mo_take_38 (by decide) (by decide) ?_
        refine A_ild1 hC d_Mo_take_40 ?_
        refine A_imul hC d_Mo_take_41 (by omega) ?_
        refine A_ild3 hC d_Mo_take_42 ?_
        refine A_iadd hC d_Mo_take_43 (by omega) ?_
        refine A_ist4 hC d_Mo_take_44 ?_
        refine A_ild3 hC d_Mo_take_46 ?_
        refine A_ald0 hC d_Mo_take_47 ?_
        refine A_getCR (v := 103) hC d_Mo_take_48 fF_Mo_57 ⟨by decide, rfl⟩ ly_88 (by omega) ⟨rfl, by decide⟩ cv_88_19 ?_
        refine A_ild1 hC d_Mo_take_51 ?_
        refine A_iald hC d_Mo_take_52 ly_103 (by omega) (by omega) ?_
        refine A_icmpne (tgt := 119) hC d_Mo_take_53 (by decide) (fun h53 => ?_) (fun h53 => ?_)
        · exact absurd h103.symm h53
        · refine A_ald0 hC d_Mo_take_56 ?_
          refine A_getCR (v := 104) hC d_Mo_take_57 fF_Mo_60 ⟨by decide, rfl⟩ ly_88 (by omega) ⟨rfl, by decide⟩ cv_88_20 ?_
          refine A_ild4 hC d_Mo_take_60 ?_
          refine A_ald0 hC d_Mo_take_62 ?_
          refine A_getCR (v := 97) hC d_Mo_take_63 fF_Mo_34 ⟨by decide, rfl⟩ ly_88 (by omega) ⟨rfl, by decide⟩ cv_88_10 ?_
          refine A_ild2 hC d_Mo_take_66 ?_
          refine A_iald hC d_Mo_take_67 ly_97 (by omega) (by omega) ?_
          refine A_iast hC d_Mo_take_68 ly_104 (by omega) (by omega) (fun _ => kk_i _) ?_
          refine A_ald0 hC d_Mo_take_69 ?_
          refine A_getCR (v := 105) hC d_Mo_take_70 fF_Mo_63 ⟨by decide, rfl⟩ ly_88 (by omega) ⟨rfl, by decide⟩ cv_88_21 ?_
          refine A_ild4 hC d_Mo_take_73 ?_
          refine A_ald0 hC d_Mo_take_75 ?_
          refine A_getCR (v := 96) hC d_Mo_take_76 fF_Mo_31 ⟨by decide, rfl⟩ ly_88 (by omega) ⟨rfl, by decide⟩ cv_88_9 ?_
          refine A_ild2 hC d_Mo_take_79 ?_
          refine A_ialdE (x := M 96 i) hC d_Mo_take_80 ly_96 (by omega) (by omega) (by rw [up_nc (c := 104) (c' := 96) (by decide)]) ?_
          refine A_iast hC d_Mo_take_81 ly_105 (by omega) (by omega) (fun _ => kk_i _) ?_
          refine A_ald0 hC d_Mo_take_82 ?_
          refine A_getCR (v := 106) hC d_Mo_take_83 fF_Mo_66 ⟨by decide, rfl⟩ ly_88 (by omega) ⟨rfl, by decide⟩ cv_88_22 ?_
          refine A_ild4 hC d_Mo_take_86 ?_
          refine A_ald0 hC d_Mo_take_88 ?_
          refine A_getCR (v := 96) hC d_Mo_take_89 fF_Mo_31 ⟨by decide, rfl⟩ ly_88 (by omega) ⟨rfl, by decide⟩ cv_88_9 ?_
          refine A_ild2 hC d_Mo_take_92 ?_
          refine A_ialdE (x := M 96 i) hC d_Mo_take_93 ly_96 (by omega) (by omega) (by rw [up_nc (c := 105) (c' := 96) (by decide), up_nc (c := 104) (c' := 96) (by decide)]) ?_
          refine A_iconst hC d_Mo_take_94 (by decide) ?_
          refine A_icmpne (tgt := 102) hC d_Mo_take_95 (by decide) (fun h95 => ?_) (fun h95 => ?_)
          · refine A_ald0 hC d_Mo_take_102 ?_
            refine A_getCR (v := 98) hC d_Mo_take_103 fF_Mo_37 ⟨by decide, rfl⟩ ly_88 (by omega) ⟨rfl, by decide⟩ cv_88_11 ?_
            refine A_ild2 hC d_Mo_take_106 ?_
            refine A_ialdE (x := M 98 i) hC d_Mo_take_107 ly_98 (by omega) (by omega) (by rw [up_nc (c := 105) (c' := 98) (by decide), up_nc (c := 104) (c' := 98) (by decide)]) ?_
            refine A_iast hC d_Mo_take_108 ly_106 (by omega) (by omega) (fun _ => kk_i _) ?_
            refine A_ald0 hC d_Mo_take_109 ?_
            refine A_getCR (v := 103) hC d_Mo_take_110 fF_Mo_57 ⟨by decide, rfl⟩ ly_88 (by omega) ⟨rfl, by decide⟩ cv_88_19 ?_
            refine A_ild1 hC d_Mo_take_113 ?_
            refine A_dup2 hC d_Mo_take_114 ?_
            refine A_ialdE (x := M 103 j) hC d_Mo_take_115 ly_103 (by omega) (by omega) (by rw [up_nc (c := 106) (c' := 103) (by decide), up_nc (c := 105) (c' := 103) (by decide), up_nc (c := 104) (c' := 103) (by decide)]) ?_
            refine A_iconst hC d_Mo_take_116 (by decide) ?_
            refine A_iadd hC d_Mo_take_117 (by omega) ?_
            refine A_iast hC d_Mo_take_118 ly_103 (by omega) (by omega) (fun _ => kk_i _) ?_
            have hR1 : RL B tk (up (up (up (up M 104 (10 * j + (es.length : Int)) (B s 2)) 105 (10 * j + (es.length : Int)) (B s 1)) 106 (10 * j + (es.length : Int)) (B s 3)) 103 j ((es.length : Int) + 1)) j (es ++ [[s]]) SL := RL_add hRL (fun q => by first | rfl | exact absurd (by omega) q)
            have hf1 : fC j M (up (up (up (up M 104 (10 * j + (es.length : Int)) (B s 2)) 105 (10 * j + (es.length : Int)) (B s 1)) 106 (10 * j + (es.length : Int)) (B s 3)) 103 j ((es.length : Int) + 1)) := fun c y q => by rw [up_nc_or (by omega), up_nc_or (by omega), up_nc_or (by omega), up_nc_or (by omega)]
            have hzk : (up (up (up (up M 104 (10 * j + (es.length : Int)) (B s 2)) 105 (10 * j + (es.length : Int)) (B s 1)) 106 (10 * j + (es.length : Int)) (B s 3)) 103 j ((es.length : Int) + 1)) 88 13 = M 88 13 ∧ ∀ y : Int, (up (up (up (up M 104 (10 * j + (es.length : Int)) (B s 2)) 105 (10 * j + (es.length : Int)) (B s 1)) 106 (10 * j + (es.length : Int)) (B s 3)) 103 j ((es.length : Int) + 1)) 100 y = M 100 y := ⟨by rw [up_nc (by decide), up_nc (by decide), up_nc (by decide), up_nc (by decide)], fun y => by rw [up_nc (by decide), up_nc (by decide), up_nc (by decide), up_nc (by decide)]⟩
            have h107 : (up (up (up (up M 104 (10 * j + (es.length : Int)) (B s 2)) 105 (10 * j + (es.length : Int)) (B s 1)) 106 (10 * j + (es.length : Int)) (B s 3)) 103 j ((es.length : Int) + 1)) 107 j = M 107 j := by rw [up_nc (by decide), up_nc (by decide), up_nc (by decide), up_nc (by decide)]
            rw [h97, h96, h98, h103]
            generalize up (up (up (up M 104 (10 * j + (es.length : Int)) (B s 2)) 105 (10 * j + (es.length : Int)) (B s 1)) 106 (10 * j + (es.length : Int)) (B s 3)) 103 j ((es.length : Int) + 1) = N1 at hR1 hf1 h107 hzk ⊢
            have hg := hR1.1.2 es.length (by simp)
            rw [getD_e] at hg
            exact tail N1 es.length (B s 1) (B s 3) (es ++ [[s]]) hf1 hzk hl10 h107 hg.2.1 hg.2.2 (fun q => absurd ⟨rfl, Or.inr rfl⟩ q) (fun _ => ⟨hen, hR1, (SLR_add hSL).1, (SLR_add hSL).2⟩)
          · refine A_iconst hC d_Mo_take_98 (by decide) ?_
            refine A_goto (tgt := 108) hC d_Mo_take_99 (by decide) ?_
            refine A_iast hC d_Mo_take_108 ly_106 (by omega) (by omega) (fun _ => kk_i _) ?_
            refine A_ald0 hC d_Mo_take_109 ?_
            refine A_getCR (v := 103) hC d_Mo_take_110 fF_Mo_57 ⟨by decide, rfl⟩ ly_88 (by omega) ⟨rfl, by decide⟩ cv_88_19 ?_
            refine A_ild1 hC d_Mo_take_113 ?_
            refine A_dup2 hC d_Mo_take_114 ?_
            refine A_ialdE (x := M 103 j) hC d_Mo_take_115 ly_103 (by omega) (by omega) (by rw [up_nc (c := 106) (c' := 103) (by decide), up_nc (c := 105) (c' := 103) (by decide), up_nc (c := 104) (c' := 103) (by decide)]) ?_
            refine A_iconst hC d_Mo_take_116 (by decide) ?_
            refine A_iadd hC d_Mo_take_117 (by omega) ?_
            refine A_iast hC d_Mo_take_118 ly_103 (by omega) (by omega) (fun _ => kk_i _) ?_
            have hR1 : RL B tk (up (up (up (up M 104 (10 * j + (es.length : Int)) (B s 2)) 105 (10 * j + (es.length : Int)) (B s 1)) 106 (10 * j + (es.length : Int)) 0) 103 j ((es.length : Int) + 1)) j (es ++ [[s]]) SL := RL_add hRL (fun q => by first | rfl | exact absurd (by omega) q)
            have hf1 : fC j M (up (up (up (up M 104 (10 * j + (es.length : Int)) (B s 2)) 105 (10 * j + (es.length : Int)) (B s 1)) 106 (10 * j + (es.length : Int)) 0) 103 j ((es.length : Int) + 1)) := fun c y q => by rw [up_nc_or (by omega), up_nc_or (by omega), up_nc_or (by omega), up_nc_or (by omega)]
            have hzk : (up (up (up (up M 104 (10 * j + (es.length : Int)) (B s 2)) 105 (10 * j + (es.length : Int)) (B s 1)) 106 (10 * j + (es.length : Int)) 0) 103 j ((es.length : Int) + 1)) 88 13 = M 88 13 ∧ ∀ y : Int, (up (up (up (up M 104 (10 * j + (es.length : Int)) (B s 2)) 105 (10 * j + (es.length : Int)) (B s 1)) 106 (10 * j + (es.length : Int)) 0) 103 j ((es.length : Int) + 1)) 100 y = M 100 y := ⟨by rw [up_nc (by decide), up_nc (by decide), up_nc (by decide), up_nc (by decide)], fun y => by rw [up_nc (by decide), up_nc (by decide), up_nc (by decide), up_nc (by decide)]⟩
            have h107 : (up (up (up (up M 104 (10 * j + (es.length : Int)) (B s 2)) 105 (10 * j + (es.length : Int)) (B s 1)) 106 (10 * j + (es.length : Int)) 0) 103 j ((es.length : Int) + 1)) 107 j = M 107 j := by rw [up_nc (by decide), up_nc (by decide), up_nc (by decide), up_nc (by decide)]
            rw [h97, h96, h103]
            generalize up (up (up (up M 104 (10 * j + (es.length : Int)) (B s 2)) 105 (10 * j + (es.length : Int)) (B s 1)) 106 (10 * j + (es.length : Int)) 0) 103 j ((es.length : Int) + 1) = N1 at hR1 hf1 h107 hzk ⊢
            have hg := hR1.1.2 es.length (by simp)
            rw [getD_e] at hg
            exact tail N1 es.length (B s 1) (B s 3) (es ++ [[s]]) hf1 hzk hl10 h107 hg.2.1 hg.2.2 (fun q => absurd ⟨rfl, Or.inr rfl⟩ q) (fun _ => ⟨hen, hR1, (SLR_add hSL).1, (SLR_add hSL).2⟩)
      · exact absurd h9 (by omega)
    | cons e es2 ih =>
      intro es1 hsp hnm
      have hlen : es1.length < es.length := by rw [hsp]; simp
      have h103 := hRL.1.1
      have hg := hRL.1.2 es1.length hlen
      have hgd : es.getD es1.length [] = e := by rw [hsp]; exact getD_e
      rw [hgd] at hg
      have hem : e ∈ es := by rw [hsp]; exact List.mem_append_right _ List.mem_cons_self
      refine A_ild3 hC d_Mo_take_2 ?_
      refine A_ald0 hC d_Mo_take_3 ?_
      refine A_getCR (v := 103) hC d_Mo_take_4 fF_Mo_57 ⟨by decide, rfl⟩ ly_88 (by omega) ⟨rfl, by decide⟩ cv_88_19 ?_
      refine A_ild1 hC d_Mo_take_7 ?_
      refine A_iald hC d_Mo_take_8 ly_103 (by omega) (by omega) ?_
      refine A_icmpge (tgt := 38) hC d_Mo_take_9 (by decide) (fun h9 => ?_) (fun h9 => ?_)
      · exact absurd h9 (by omega)
      · refine A_ald0 hC d_Mo_take_12 ?_
        refine A_getCR (v := 104) hC d_Mo_take_13 fF_Mo_60 ⟨by decide, rfl⟩ ly_88 (by omega) ⟨rfl, by decide⟩ cv_88_20 ?_
        refine A_bipush hC d_Mo_take_16 (by decide) (by decide) ?_
        refine A_ild1 hC d_Mo_take_18 ?_
        refine A_imul hC d_Mo_take_19 (by omega) ?_
        refine A_ild3 hC d_Mo_take_20 ?_
        refine A_iadd hC d_Mo_take_21 (by omega) ?_
        refine A_iald hC d_Mo_take_22 ly_104 (by omega) (by omega) ?_
        refine A_eqi hg.1 ?_
        refine A_ald0 hC d_Mo_take_23 ?_
        refine A_getCR (v := 97) hC d_Mo_take_24 fF_Mo_34 ⟨by decide, rfl⟩ ly_88 (by omega) ⟨rfl, by decide⟩ cv_88_10 ?_
        refine A_ild2 hC d_Mo_take_27 ?_
        refine A_iald hC d_Mo_take_28 ly_97 (by omega) (by omega) ?_
        refine A_eqi h97 ?_
        refine A_icmpeq (tgt := 38) hC d_Mo_take_29 (by decide) (fun h29 => ?_) (fun h29 => ?_)
        · refine A_bipush hC d_Mo_take_38 (by decide) (by decide) ?_
          refine A_ild1 hC d_Mo_take_40 ?_
          refine A_imul hC d_Mo_take_41 (by omega) ?_
          refine A_ild3 hC d_Mo_take_42 ?_
          refine A_iadd hC d_Mo_take_43 (by omega) ?_
          refine A_ist4 hC d_Mo_take_44 ?_
          refine A_ild3 hC d_Mo_take_46 ?_
          refine A_ald0 hC d_Mo_take_47 ?_
          refine A_getCR (v := 103) hC d_Mo_take_48 fF_Mo_57 ⟨by decide, rfl⟩ ly_88 (by omega) ⟨rfl, by decide⟩ cv_88_19 ?_
          refine A_ild1 hC d_Mo_take_51 ?_
          refine A_iald hC d_Mo_take_52 ly_103 (by omega) (by omega) ?_
          refine A_icmpne (tgt := 119) hC d_Mo_take_53 (by decide) (fun h53 => ?_) (fun h53 => ?_)
          · have hen : enP B s es = if B (hdE e) 1 = B s 1 ∧ (B s 1 = 2 ∨ B (hdE e) 3 = B s 3) then some (es1 ++ (e ++ [s]) :: es2) else none := by
              rcases enP_idx B s es with ⟨g1, -⟩ | ⟨fs1, f, fs2, g1, g2, g3, g4⟩
              · exact absurd h29 (g1 e hem)
              · obtain ⟨k1, k2, k3⟩ := spl_eq hnm h29 g2 g3 (hsp.symm.trans g1)
                rw [g4, k1, k2, k3]
            refine tail M es1.length (B (hdE e) 1) (B (hdE e) 3) (es1 ++ (e ++ [s]) :: es2) fC_r ⟨rfl, fun _ => rfl⟩ (by omega) rfl hg.2.1 hg.2.2 (fun q => by rw [hen, if_neg q]) (fun q => ⟨by rw [hen, if_pos q], ?_, ?_, ?_⟩)
            · rw [hsp] at hRL
              exact RL_put (hne e hem) hRL
            · intro q1
              rw [hsp] at hSL
              exact (SLR_put (hne e hem) hSL).1 (by rw [q.1]; exact q1)
            · rw [hsp] at hSL
              exact (SLR_put (hne e hem) hSL).2
          · exact absurd h53 (by omega)
        · refine A_iinc3 hC d_Mo_take_32 (by omega) ?_
          refine A_goto (tgt := 2) hC d_Mo_take_35 (by decide) ?_
          have hx := ih (es1 ++ [e]) (by rw [hsp]; simp) (fun a ha => by
            rcases List.mem_append.mp ha with ha | ha
            · exact hnm a ha
            · simp at ha; rw [ha]; exact h29)
          rw [List.length_append] at hx
          exact hx
  refine A_iconst hC d_Mo_take_0 (by decide) ?_
  refine A_ist3 hC d_Mo_take_1 ?_
  exact loop es [] rfl (fun e he => absurd he List.not_mem_nil)
