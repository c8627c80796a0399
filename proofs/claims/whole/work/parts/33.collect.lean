-- ===== COLLECT: B has the steps as they were written out (slots 9 and 10 apart, nothing changes)
abbrev isEP (B : Mem) (s : Int) : Prop := B s 1 = 0 ∨ B s 1 = 1 ∨ B s 1 = 2
abbrev pasP (B : Mem) (s ty : Int) : Prop := B s 1 = 1 ∨ (B s 1 = 3 ∧ ¬ B s 2 = ty) ∨ (B s 1 = 4 ∧ ¬ B 16 (B s 2) = B s 3)
def nxC (B : Mem) (ty i : Int) : Int := if pasP B (20 + i) ty then (if i < B (20 + i) 6 then B (20 + i) 6 else i) + 1 else i + 1
theorem nxC_gt {B : Mem} {ty i : Int} : i + 1 ≤ nxC B ty i := by unfold nxC; repeat (first | omega | split)
def cI (B : Mem) (ty cl : Int) : Nat → Int → List (List Int) → Option (List (List Int))
  | 0, _, es => some es
  | f + 1, i, es => if cl ≤ i then some es else if isEP B (20 + i) then (match enP B (20 + i) es with | none => none | some es' => cI B ty cl f (nxC B ty i) es') else cI B ty cl f (nxC B ty i) es
def cO (B : Mem) (ty : Int) : List Int → List (List Int) → Option (List (List Int))
  | [], es => some es
  | c :: cs, es => match cI B ty (B c 6) 61 (c - 20 + 1) es with | none => none | some es' => cO B ty cs es'
def agr (B M : Mem) : Prop := ∀ c y : Int, c ≠ 82 → y ≠ 9 ∧ y ≠ 10 → M c y = B c y
abbrev inR (B : Mem) (sets : List Int) (c : Int) : Prop := ∃ p ∈ sets, p < c ∧ c - 20 < B p 6
def fr2 (B : Mem) (sets : List Int) (M : Mem) : Prop := ∀ c y : Int, c ≠ 82 → ¬ inR B sets c → M c y = B c y
theorem enP_eq {B M : Mem} {s : Int} (h : agr B M) (hs : s ≠ 82) : ∀ es : List (List Int), (∀ e ∈ es, hdE e ≠ 82) → enP M s es = enP B s es
  | [], _ => rfl
  | e :: es, he => by
    have h0 := he e List.mem_cons_self
    unfold enP
    rw [h _ 2 h0 (by decide), h _ 1 h0 (by decide), h _ 3 h0 (by decide), h s 2 hs (by decide), h s 1 hs (by decide), h s 3 hs (by decide), enP_eq h hs es (fun x hx => he x (List.mem_cons_of_mem _ hx))]
theorem enP_fl {B : Mem} {s : Int} : ∀ (es es' : List (List Int)), enP B s es = some es' → ∀ c ∈ es'.flatten, c ∈ es.flatten ∨ c = s
  | [], es', h, c, hc => by
    have h : some [[s]] = some es' := h
    cases h
    exact Or.inr (by simpa using hc)
  | e :: es, es', h, c, hc => by
    unfold enP at h
    split at h
    · split at h
      · cases h
        rw [List.flatten_cons] at hc
        rcases List.mem_append.mp hc with hc | hc
        · rcases List.mem_append.mp hc with hc | hc
          · exact Or.inl (by rw [List.flatten_cons]; exact List.mem_append_left _ hc)
          · exact Or.inr (by simpa using hc)
        · exact Or.inl (by rw [List.flatten_cons]; exact List.mem_append_right _ hc)
      · cases h
    · cases hq : enP B s es with
      | none => rw [hq] at h; cases h
      | some q =>
        rw [hq] at h
        cases h
        rw [List.flatten_cons] at hc
        rcases List.mem_append.mp hc with hc | hc
        · exact Or.inl (by rw [List.flatten_cons]; exact List.mem_append_left _ hc)
        · rcases enP_fl es q hq c hc with z | z
          · exact Or.inl (by rw [List.flatten_cons]; exact List.mem_append_right _ z)
          · exact Or.inr z
def CPost (B : Mem) (ty : Int) (sets : List Int) (r : Option AV) (M' : Mem) : Prop := (∃ v : Int, r = some (.inr v) ∧ (cO B ty sets [] = none → M' 82 4 = 1) ∧ ∀ es, cO B ty sets [] = some es → v = (es.map hdE).headD (-1) ∧ ENT M' es ∧ M' 82 4 = 0) ∧ agr B M' ∧ fr2 B sets M'
/-- sets that are collected together: chained, within their bounds, none in another's stretch, stretches apart -/
def SETS (B : Mem) (sets : List Int) : Prop := nxL B 10 sets ∧ (∀ p ∈ sets, (20 ≤ p ∧ p < 81) ∧ B p 6 ≤ 61) ∧ (∀ p ∈ sets, ¬ inR B sets p) ∧ ∀ done p cs, sets = done ++ p :: cs → ∀ c : Int, inR B done c → ¬ (p < c ∧ c - 20 < B p 6)
set_option maxHeartbeats 4000000 in
theorem k_Co_collect (l : Launch) (n : Nat) (B : Mem) (hn : 117 ≤ n) (ty c0 : Int) (rs : List Int) (hS : SETS B (c0 :: rs)) (h4 : ∀ c : Int, inR B (c0 :: rs) c → B c 1 = 4 → 0 ≤ B c 2 ∧ B c 2 ≤ 3) (h61 : ∀ c : Int, inR B (c0 :: rs) c → B c 6 ≤ 61) : AMet l m_Co_collect true 3 0 0 [.inr 82, .inl ty, .inr c0] n B (fun r n' M' => n' = n ∧ CPost B ty (c0 :: rs) r M') := by
  refine AM_intro (by decide) (Nat.le_of_ble_eq_true rfl) (fun X b0 D hC _ => ?_)
  show AW X b0 D true 0 0 (fx_Q X b0 D true 0 0 (fun r' n' M' => n' = n ∧ CPost B ty (c0 :: rs) r' M')) n B 0 [some (.inr 82), some (.inl ty), some (.inr c0), none, none, none] []
  obtain ⟨hS1, hS2, hS3, hS4⟩ := hS
  have outer : ∀ (cs done : List Int) (M : Mem) (es : List (List Int)) (o : Int) (x4 x5 : Option AV), c0 :: rs = done ++ cs → (o = cs.headD (-1) ∨ (o < 0 ∧ cs = [])) → nxL B 10 cs → agr B M → fr2 B (c0 :: rs) M → ENT M es → M 82 4 = 0 → (∀ c ∈ es.flatten, inR B done c) → cO B ty cs es = cO B ty (c0 :: rs) [] → AW X b0 D true 0 0 (fx_Q X b0 D true 0 0 (fun r' n' M' => n' = n ∧ CPost B ty (c0 :: rs) r' M')) n M 17 [some (.inr 82), some (.inl ty), some (.inr c0), some (.inr o), x4, x5] [] := by
    intro cs
    induction cs with
    | nil =>
      intro done M es o x4 x5 hcs ho hch hag hfr hE hcl hin hres
      have ho : o < 0 := by
        rcases ho with q | q
        · have q : o = -1 := q
          omega
        · exact q.1
      refine A_ald3 hC d_Co_collect_17 ?_
      refine A_ifnull (tgt := 114) hC d_Co_collect_18 (by decide) (fun h18 => ?_) (fun h18 => ?_)
      · refine A_ald0 hC d_Co_collect_114 ?_
        refine A_getR (kI := 2) hC d_Co_collect_115 fF_Co_19 ⟨by decide, rfl⟩ rfl ly_82 (by omega) ?_
        refine A_aret hC d_Co_collect_118 rfl (Nat.le_refl _) (Nat.le_refl _) ?_
        exact ⟨rfl, ⟨M 82 2, rfl, (fun q => by rw [← hres] at q; cases q), fun es' q => by rw [← hres] at q; cases q; exact ⟨hE.2.2.1, hE, hcl⟩⟩, hag, hfr⟩
      · exact absurd ho h18
    | cons p cs ihO =>
      intro done M es o x4 x5 hcs ho hch hag hfr hE hcl hin hres
      have ho : o = p := by
        rcases ho with q | q
        · exact q
        · exact absurd q.2 (by simp)
      subst ho
      have hpm : o ∈ c0 :: rs := by rw [hcs]; exact List.mem_append_right _ List.mem_cons_self
      have hp := hS2 o hpm
      have hpn := hS3 o hpm
      have sub : ∀ c : Int, inR B done c → inR B (c0 :: rs) c := fun c ⟨q, q1, q2⟩ => ⟨q, by rw [hcs]; exact List.mem_append_left _ q1, q2⟩
      have clash : ∀ (M : Mem) (i : Int) (x5 : Option AV), agr B M → fr2 B (c0 :: rs) M → M 82 4 = 1 → cO B ty (c0 :: rs) [] = none → AW X b0 D true 0 0 (fx_Q X b0 D true 0 0 (fun r' n' M' => n' = n ∧ CPost B ty (c0 :: rs) r' M')) n M 36 [some (.inr 82), some (.inl ty), some (.inr c0), some (.inr o), some (.inl i), x5] [] := by
        intro M i x5 hag hfr hc1 hres
        refine A_ild4 hC d_Co_collect_36 ?_
        refine A_ald3 hC d_Co_collect_38 ?_
        refine A_getI (kI := 6) hC d_Co_collect_39 fF_Co_36 ⟨by decide, rfl⟩ rfl (ly_S (by omega)) (by omega) ?_
        refine A_icmpge (tgt := 106) hC d_Co_collect_42 (by decide) (fun h42 => ?_) (fun h42 => ?_)
        · refine A_ald3 hC d_Co_collect_106 ?_
          refine A_getR (kI := 10) hC d_Co_collect_107 fF_Co_63 ⟨by decide, rfl⟩ rfl (ly_S (by omega)) (by omega) ?_
          refine A_ast3 hC d_Co_collect_110 ?_
          refine A_goto (tgt := 17) hC d_Co_collect_111 (by decide) ?_
          refine A_ald3 hC d_Co_collect_17 ?_
          refine A_ifnull (tgt := 114) hC d_Co_collect_18 (by decide) (fun h18 => ?_) (fun h18 => ?_)
          · refine A_ald0 hC d_Co_collect_114 ?_
            refine A_getR (kI := 2) hC d_Co_collect_115 fF_Co_19 ⟨by decide, rfl⟩ rfl ly_82 (by omega) ?_
            refine A_aret hC d_Co_collect_118 rfl (Nat.le_refl _) (Nat.le_refl _) ?_
            exact ⟨rfl, ⟨M 82 2, rfl, fun _ => hc1, fun es' q => by rw [hres] at q; cases q⟩, hag, hfr⟩
          · refine A_ald0 hC d_Co_collect_21 ?_
            refine A_getI (kI := 4) hC d_Co_collect_22 fF_Co_26 ⟨by decide, rfl⟩ rfl ly_82 (by omega) ?_
            refine A_ifne (tgt := 114) hC d_Co_collect_25 (by decide) (fun h25 => ?_) (fun h25 => ?_)
            · refine A_ald0 hC d_Co_collect_114 ?_
              refine A_getR (kI := 2) hC d_Co_collect_115 fF_Co_19 ⟨by decide, rfl⟩ rfl ly_82 (by omega) ?_
              refine A_aret hC d_Co_collect_118 rfl (Nat.le_refl _) (Nat.le_refl _) ?_
              exact ⟨rfl, ⟨M 82 2, rfl, fun _ => hc1, fun es' q => by rw [hres] at q; cases q⟩, hag, hfr⟩
            · exact absurd h25 (by omega)
        · refine A_ald0 hC d_Co_collect_45 ?_
          refine A_getI (kI := 4) hC d_Co_collect_46 fF_Co_26 ⟨by decide, rfl⟩ rfl ly_82 (by omega) ?_
          refine A_ifne (tgt := 106) hC d_Co_collect_49 (by decide) (fun h49 => ?_) (fun h49 => ?_)
          · refine A_ald3 hC d_Co_collect_106 ?_
            refine A_getR (kI := 10) hC d_Co_collect_107 fF_Co_63 ⟨by decide, rfl⟩ rfl (ly_S (by omega)) (by omega) ?_
            refine A_ast3 hC d_Co_collect_110 ?_
            refine A_goto (tgt := 17) hC d_Co_collect_111 (by decide) ?_
            refine A_ald3 hC d_Co_collect_17 ?_
            refine A_ifnull (tgt := 114) hC d_Co_collect_18 (by decide) (fun h18 => ?_) (fun h18 => ?_)
            · refine A_ald0 hC d_Co_collect_114 ?_
              refine A_getR (kI := 2) hC d_Co_collect_115 fF_Co_19 ⟨by decide, rfl⟩ rfl ly_82 (by omega) ?_
              refine A_aret hC d_Co_collect_118 rfl (Nat.le_refl _) (Nat.le_refl _) ?_
              exact ⟨rfl, ⟨M 82 2, rfl, fun _ => hc1, fun es' q => by rw [hres] at q; cases q⟩, hag, hfr⟩
            · refine A_ald0 hC d_Co_collect_21 ?_
              refine A_getI (kI := 4) hC d_Co_collect_22 fF_Co_26 ⟨by decide, rfl⟩ rfl ly_82 (by omega) ?_
              refine A_ifne (tgt := 114) hC d_Co_collect_25 (by decide) (fun h25 => ?_) (fun h25 => ?_)
              · refine A_ald0 hC d_Co_collect_114 ?_
                refine A_getR (kI := 2) hC d_Co_collect_115 fF_Co_19 ⟨by decide, rfl⟩ rfl ly_82 (by omega) ?_
                refine A_aret hC d_Co_collect_118 rfl (Nat.le_refl _) (Nat.le_refl _) ?_
                exact ⟨rfl, ⟨M 82 2, rfl, fun _ => hc1, fun es' q => by rw [hres] at q; cases q⟩, hag, hfr⟩
              · exact absurd h25 (by omega)
          · exact absurd h49 (by omega)
      have exit : ∀ (M : Mem) (i : Int) (es : List (List Int)) (x5 : Option AV), B o 6 ≤ i → agr B M → fr2 B (c0 :: rs) M → ENT M es → M 82 4 = 0 → (∀ c ∈ es.flatten, inR B (done ++ [o]) c) → cO B ty cs es = cO B ty (c0 :: rs) [] → AW X b0 D true 0 0 (fx_Q X b0 D true 0 0 (fun r' n' M' => n' = n ∧ CPost B ty (c0 :: rs) r' M')) n M 36 [some (.inr 82), some (.inl ty), some (.inr c0), some (.inr o), some (.inl i), x5] [] := by
        intro M i es x5 hcl6 hag hfr hE hcl hin hres
        have e6 : M o 6 = B o 6 := hag o 6 (by omega) (by decide)
        have e10 : M o 10 = B o 10 := hfr o 10 (by omega) hpn
        refine A_ild4 hC d_Co_collect_36 ?_
        refine A_ald3 hC d_Co_collect_38 ?_
        refine A_getI (kI := 6) hC d_Co_collect_39 fF_Co_36 ⟨by decide, rfl⟩ rfl (ly_S (by omega)) (by omega) ?_
        refine A_icmpge (tgt := 106) hC d_Co_collect_42 (by decide) (fun h42 => ?_) (fun h42 => ?_)
        · refine A_ald3 hC d_Co_collect_106 ?_
          refine A_getR (kI := 10) hC d_Co_collect_107 fF_Co_63 ⟨by decide, rfl⟩ rfl (ly_S (by omega)) (by omega) ?_
          refine A_ast3 hC d_Co_collect_110 ?_
          refine A_goto (tgt := 17) hC d_Co_collect_111 (by decide) ?_
          refine ihO (done ++ [o]) M es (M o 10) _ _ (by rw [hcs]; simp) ?_ ?_ hag hfr hE hcl hin hres
          · rw [e10]
            cases cs with
            | nil => exact Or.inr ⟨hch, rfl⟩
            | cons q cs => exact Or.inl hch.1
          · cases cs with
            | nil => trivial
            | cons q cs => exact hch.2
        · exact absurd h42 (by omega)
      have inner : ∀ (f : Nat) (M : Mem) (i : Int) (es : List (List Int)) (x5 : Option AV), B o 6 ≤ (f : Int) + i → o - 20 < i → agr B M → fr2 B (c0 :: rs) M → ENT M es → M 82 4 = 0 → (∀ c ∈ es.flatten, inR B done c ∨ (o < c ∧ c - 20 < i ∧ c - 20 < B o 6)) → (match cI B ty (B o 6) f i es with | none => none | some es' => cO B ty cs es') = cO B ty (c0 :: rs) [] → AW X b0 D true 0 0 (fx_Q X b0 D true 0 0 (fun r' n' M' => n' = n ∧ CPost B ty (c0 :: rs) r' M')) n M 36 [some (.inr 82), some (.inl ty), some (.inr c0), some (.inr o), some (.inl i), x5] [] := by
        have conv : ∀ (i : Int) (es : List (List Int)), (∀ c ∈ es.flatten, inR B done c ∨ (o < c ∧ c - 20 < i ∧ c - 20 < B o 6)) → ∀ c ∈ es.flatten, inR B (done ++ [o]) c := by
          intro i es h c hc
          rcases h c hc with ⟨q, q1, q2⟩ | q
          · exact ⟨q, List.mem_append_left _ q1, q2⟩
          · exact ⟨o, List.mem_append_right _ List.mem_cons_self, q.1, q.2.2⟩
        intro f
        induction f with
        | zero =>
          intro M i es x5 h1 h2 hag hfr hE hcl hin hres
          exact exit M i es x5 (by omega) hag hfr hE hcl (conv i es hin) hres
        | succ f ih =>
          intro M i es x5 h1 h2 hag hfr hE hcl hin hres
          by_cases h6 : B o 6 ≤ i
          · refine exit M i es x5 h6 hag hfr hE hcl (conv i es hin) ?_
            unfold cI at hres
            rw [if_pos h6] at hres
            exact hres
          unfold cI at hres
          rw [if_neg h6] at hres
          have e6 : M o 6 = B o 6 := hag o 6 (by omega) (by decide)
          have hsr : 20 ≤ 20 + i ∧ 20 + i < 81 := by omega
          have hsin : inR B (c0 :: rs) (20 + i) := ⟨o, hpm, by omega, by omega⟩
          have hns : 20 + i ∉ es.flatten := fun q => by
            rcases hin _ q with z | z
            · exact hS4 done o cs hcs _ z ⟨by omega, by omega⟩
            · omega
          have hne82 : ∀ e ∈ es, hdE e ≠ 82 := fun e he => by
            have := hE.2.2.2.2.2 (hdE e) (List.mem_flatten.mpr ⟨e, he, hdE_mem (hE.1 e he).1⟩)
            omega
          have hen := enP_eq hag (show 20 + i ≠ 82 by omega) es hne82
          have hgt := nxC_gt (B := B) (ty := ty) (i := i)
          have tail : ∀ (N : Mem) (es2 : List (List Int)), agr B N → fr2 B (c0 :: rs) N → (cO B ty (c0 :: rs) [] = none ∧ N 82 4 = 1 ∨ ENT N es2 ∧ N 82 4 = 0 ∧ (∀ c ∈ es2.flatten, inR B done c ∨ (o < c ∧ c - 20 < i + 1 ∧ c - 20 < B o 6)) ∧ (match cI B ty (B o 6) f (nxC B ty i) es2 with | none => none | some es' => cO B ty cs es') = cO B ty (c0 :: rs) []) → AW X b0 D true 0 0 (fx_Q X b0 D true 0 0 (fun r' n' M' => n' = n ∧ CPost B ty (c0 :: rs) r' M')) n N 78 [some (.inr 82), some (.inl ty), some (.inr c0), some (.inr o), some (.inl i), some (.inr (20 + i))] [] := by
            intro N es2 hag2 hfr2 hor
            have a1 : N (20 + i) 1 = B (20 + i) 1 := hag2 _ 1 (by omega) (by decide)
            have a2 : N (20 + i) 2 = B (20 + i) 2 := hag2 _ 2 (by omega) (by decide)
            have a3 : N (20 + i) 3 = B (20 + i) 3 := hag2 _ 3 (by omega) (by decide)
            have a6 : N (20 + i) 6 = B (20 + i) 6 := hag2 _ 6 (by omega) (by decide)
            have a16 : ∀ y : Int, y ≠ 9 ∧ y ≠ 10 → N 16 y = B 16 y := fun y hy => hag2 16 y (by decide) hy
            have hab := h4 (20 + i) hsin
            have h6b := h61 (20 + i) hsin
            refine A_ald0 hC d_Co_collect_78 ?_
            refine A_ald5 hC d_Co_collect_79 ?_
            refine A_ild1 hC d_Co_collect_81 ?_
            refine A_VF1 (as := [.inr (20 + i), .inl ty]) hC d_Co_collect_82 mv_Co_isPassedOver lk_Co_53 (by decide) sel_Co_isPassedOver hq_Co ly_82 (by omega) (k_Co_isPassedOver l n N hn (20 + i) ty (by omega) (fun q => by rw [a2]; rw [a1] at q; exact hab q)) rfl rfl (Nat.le_of_ble_eq_true rfl) ⟨Nat.zero_le _, Nat.zero_le _⟩ rfl ?_
            refine A_ifeq (tgt := 100) hC d_Co_collect_85 (by decide) (fun h85 => ?_) (fun h85 => ?_)
            · refine A_iinc4 hC d_Co_collect_100 (by repeat (first | omega | split)) ?_
              refine A_goto (tgt := 36) hC d_Co_collect_103 (by decide) ?_
              have hnx : i + 1 = nxC B ty i := by
                unfold nxC
                rw [a1, a2, a3] at h85
                by_cases z4 : B (20 + i) 1 = 4
                · have z5 := hab z4
                  rw [a16 _ (by omega)] at h85
                  rw [if_neg (c := pasP B (20 + i) ty) (by repeat (first | omega | split at h85))]
                · rw [if_neg (c := pasP B (20 + i) ty) (by repeat (first | omega | split at h85))]
              rw [hnx]
              rcases hor with ⟨z1, z2⟩ | ⟨z1, z2, z3, z4⟩
              · exact clash N _ _ hag2 hfr2 z2 z1
              · exact ih N _ es2 _ (by omega) (by omega) hag2 hfr2 z1 z2 (fun c hc => (z3 c hc).imp id (fun q => ⟨q.1, by omega, q.2.2⟩)) z4
            · refine A_ild4 hC d_Co_collect_88 ?_
              refine A_ald5 hC d_Co_collect_90 ?_
              refine A_getI (kI := 6) hC d_Co_collect_92 fF_Co_36 ⟨by decide, rfl⟩ rfl (ly_S (by omega)) (by omega) ?_
              refine A_mmax hC d_Co_collect_95 lk_Co_57 zs_max zi_Math zc_max (by decide) (Nat.le_of_ble_eq_true rfl) ⟨Nat.zero_le _, Nat.zero_le _⟩ rfl ?_
              refine A_ist4 hC d_Co_collect_98 ?_
              refine A_iinc4 hC d_Co_collect_100 (by repeat (first | omega | split)) ?_
              refine A_goto (tgt := 36) hC d_Co_collect_103 (by decide) ?_
              have hnx : (if i < N (20 + i) 6 then N (20 + i) 6 else i) + 1 = nxC B ty i := by
                unfold nxC
                rw [a1, a2, a3] at h85
                by_cases z4 : B (20 + i) 1 = 4
                · have z5 := hab z4
                  rw [a16 _ (by omega)] at h85
                  rw [if_pos (c := pasP B (20 + i) ty) (by repeat (first | omega | split at h85)), a6]
                · rw [if_pos (c := pasP B (20 + i) ty) (by repeat (first | omega | split at h85)), a6]
              rw [hnx]
              rcases hor with ⟨z1, z2⟩ | ⟨z1, z2, z3, z4⟩
              · exact clash N _ _ hag2 hfr2 z2 z1
              · exact ih N _ es2 _ (by omega) (by omega) hag2 hfr2 z1 z2 (fun c hc => (z3 c hc).imp id (fun q => ⟨q.1, by omega, q.2.2⟩)) z4
          refine A_ild4 hC d_Co_collect_36 ?_
          refine A_ald3 hC d_Co_collect_38 ?_
          refine A_getI (kI := 6) hC d_Co_collect_39 fF_Co_36 ⟨by decide, rfl⟩ rfl (ly_S (by omega)) (by omega) ?_
          refine A_icmpge (tgt := 106) hC d_Co_collect_42 (by decide) (fun h42 => ?_) (fun h42 => ?_)
          · exact absurd h42 (by omega)
          · refine A_ald0 hC d_Co_collect_45 ?_
            refine A_getI (kI := 4) hC d_Co_collect_46 fF_Co_26 ⟨by decide, rfl⟩ rfl ly_82 (by omega) ?_
            refine A_ifne (tgt := 106) hC d_Co_collect_49 (by decide) (fun h49 => ?_) (fun h49 => ?_)
            · exact absurd h49 (by omega)
            · refine A_ald0 hC d_Co_collect_52 ?_
              refine A_getCR (v := 17) hC d_Co_collect_53 fF_Co_9 ⟨by decide, rfl⟩ ly_82 (by omega) ⟨rfl, by decide⟩ cv_82_0 ?_
              refine A_getCR (v := 18) hC d_Co_collect_56 fF_Co_39 ⟨by decide, rfl⟩ ly_17 (by omega) ⟨rfl, by decide⟩ cv_17_2 ?_
              refine A_ild4 hC d_Co_collect_59 ?_
              refine A_aaldC (v := 20 + i) hC d_Co_collect_61 ly_18 (by omega) (by omega) ⟨rfl, kk_st (by omega)⟩ (by rw [cv_st]; try omega) ?_
              refine A_ast5 hC d_Co_collect_62 ?_
              refine A_ald5 hC d_Co_collect_64 ?_
              refine A_VF1 (as := []) hC d_Co_collect_66 mv_St_isEntry lk_Co_45 (by decide) sel_St_isEntry hq_St (ly_S (by omega)) (by omega) (k_St_isEntry l n M hn (20 + i) (by omega)) rfl rfl (Nat.le_of_ble_eq_true rfl) ⟨Nat.zero_le _, Nat.zero_le _⟩ rfl ?_
              refine A_ifeq (tgt := 78) hC d_Co_collect_69 (by decide) (fun h69 => ?_) (fun h69 => ?_)
              · refine tail M es hag hfr (Or.inr ⟨hE, hcl, fun c hc => (hin c hc).imp id (fun q => ⟨q.1, by omega, q.2.2⟩), ?_⟩)
                have eb1 := hag (20 + i) 1 (by omega) (by decide)
                rw [if_neg (c := isEP B (20 + i)) (by rw [eb1] at h69; repeat (first | omega | split at h69))] at hres
                exact hres
              · refine A_ald0 hC d_Co_collect_72 ?_
                refine A_ald5 hC d_Co_collect_73 ?_
                refine A_VR0 (as := [.inr (20 + i)]) hC d_Co_collect_75 mv_Co_enter lk_Co_49 (by decide) sel_Co_enter hq_Co ly_82 (by omega) (k_Co_enter l n M hn es (20 + i) hE hsr hns hcl) rfl rfl (Nat.le_of_ble_eq_true rfl) ⟨Nat.zero_le _, Nat.zero_le _⟩ rfl (fun N hN => ?_)
                have hag2 : agr B N := fun c y hc hy => by rw [hN.1 c y hc (Or.inr hy)]; exact hag c y hc hy
                have hfrN : fr2 B (c0 :: rs) N := fun c y hc hy => by
                  rw [hN.1 c y hc (Or.inl ⟨fun q => hy ?_, fun q => hy (by rw [q]; exact hsin)⟩)]
                  · exact hfr c y hc hy
                  · rcases hin c q with z | z
                    · exact sub c z
                    · exact ⟨o, hpm, z.1, z.2.2⟩
                have eb1 := hag (20 + i) 1 (by omega) (by decide)
                rw [if_pos (c := isEP B (20 + i)) (by rw [eb1] at h69; repeat (first | omega | split at h69))] at hres
                cases hq : enP B (20 + i) es with
                | none =>
                  rw [hq] at hres
                  exact tail N [] hag2 hfrN (Or.inl ⟨hres.symm, hN.2.1 (by rw [hen]; exact hq)⟩)
                | some es2 =>
                  rw [hq] at hres
                  obtain ⟨z1, z2⟩ := hN.2.2 es2 (by rw [hen]; exact hq)
                  refine tail N es2 hag2 hfrN (Or.inr ⟨z1, z2, fun c hc => ?_, hres⟩)
                  rcases enP_fl es es2 hq c hc with q | q
                  · exact (hin c q).imp id (fun q => ⟨q.1, by omega, q.2.2⟩)
                  · exact Or.inr ⟨by omega, by omega, by omega⟩
      refine A_ald3 hC d_Co_collect_17 ?_
      refine A_ifnull (tgt := 114) hC d_Co_collect_18 (by decide) (fun h18 => ?_) (fun h18 => ?_)
      · exact absurd h18 (by omega)
      · refine A_ald0 hC d_Co_collect_21 ?_
        refine A_getI (kI := 4) hC d_Co_collect_22 fF_Co_26 ⟨by decide, rfl⟩ rfl ly_82 (by omega) ?_
        refine A_ifne (tgt := 114) hC d_Co_collect_25 (by decide) (fun h25 => ?_) (fun h25 => ?_)
        · exact absurd h25 (by omega)
        · refine A_ald3 hC d_Co_collect_28 ?_
          refine A_getCI (v := o - 20) hC d_Co_collect_29 fF_Co_30 ⟨by decide, rfl⟩ (ly_S (by omega)) (by omega) ⟨rfl, by decide⟩ (by rw [cv_S (by omega)]; try omega) ?_
          refine A_iconst hC d_Co_collect_32 (by decide) ?_
          refine A_iadd hC d_Co_collect_33 (by omega) ?_
          refine A_ist4 hC d_Co_collect_34 ?_
          exact inner 61 M _ es _ (by omega) (by omega) hag hfr hE hcl (fun c hc => Or.inl (hin c hc)) hres
  refine A_ald0 hC d_Co_collect_0 ?_
  refine A_null hC d_Co_collect_1 ?_
  refine A_putR (kI := 2) hC d_Co_collect_2 fP_Co_19 ⟨by decide, rfl⟩ rfl ly_82 (by omega) (fun _ => by decide) ?_
  refine A_ald0 hC d_Co_collect_5 ?_
  refine A_null hC d_Co_collect_6 ?_
  refine A_putR (kI := 3) hC d_Co_collect_7 fP_Co_23 ⟨by decide, rfl⟩ rfl ly_82 (by omega) (fun _ => by decide) ?_
  refine A_ald0 hC d_Co_collect_10 ?_
  refine A_iconst hC d_Co_collect_11 (by decide) ?_
  refine A_putZ (kI := 4) hC d_Co_collect_12 fP_Co_26 ⟨by decide, rfl⟩ rfl ly_82 (by omega) (fun _ => by decide) (by first | decide | omega) ?_
  refine A_ald2 hC d_Co_collect_15 ?_
  refine A_ast3 hC d_Co_collect_16 ?_
  exact outer (c0 :: rs) [] (up (up (up B 82 2 (-1)) 82 3 (-1)) 82 4 0) [] c0 _ _ rfl (Or.inl rfl) hS1 (fun c y hc hy => by rw [up_nc hc, up_nc hc, up_nc hc]) (fun c y hc hy => by rw [up_nc hc, up_nc hc, up_nc hc]) ⟨fun e he => absurd he List.not_mem_nil, trivial, by rw [up_nk (by decide), up_nk (by decide), up_eq]; rfl, by rw [up_nk (by decide), up_eq]; rfl, by simp, fun c hc => by simp at hc⟩ (up_eq _ _ _ _) (fun c hc => by simp at hc) rfl
