set_option maxHeartbeats 4000000 in
/-- writing a text out follows the trace: from inside a text to its end, or to the first WRONG token -/
theorem wO_tr {E : Mem} {t : Int} (hX : TXT E) : ∀ (f : Nat) (M : Mem) (T i : Int) (j : Nat) (A : List Fr) (b : Fr) (R : List Fr), PS E t j M → j ≤ 60 → 61 ≤ f + j → 0 ≤ T ∧ T ≤ 3 → 0 ≤ i ∧ i < E 12 T → tI E t j = T * 16 + i → tS E t j = A ++ b :: R → (A.length : Int) + 1 ≤ 4 → (∀ a ∈ A, a.2.1 = -1) → ((T = 0 ∧ b.2.1 = -1) ∨ (1 ≤ T ∧ 0 ≤ b.2.1)) → gdF (E 13) (E 12 T - i).toNat (T * 16 + i) ((A.length : Int) + 1) = 1 →
    ((wO f M T i (20 + (topF (tS E t j)).2.2)).1 = 0 ∧ (wO f M T i (20 + (topF (tS E t j)).2.2)).2 17 5 = CK E t j ∧ 0 ≤ CK E t j) ∨ ((wO f M T i (20 + (topF (tS E t j)).2.2)).1 = 1 ∧ (wO f M T i (20 + (topF (tS E t j)).2.2)).2 17 5 = M 17 5 ∧ ∃ j' : Nat, j < j' ∧ j' ≤ 60 ∧ PS E t j' (wO f M T i (20 + (topF (tS E t j)).2.2)).2 ∧ tS E t j' = R ∧ (0 ≤ b.2.1 → tI E t j' = b.2.1) ∧ CK E t j' = CK E t j ∧ ∀ i : Nat, j ≤ i → i < j' → tS E t i ≠ []) := by
  intro f
  induction f with
  | zero => intro M T i j A b R _ h1 h2; omega
  | succ f ih =>
    intro M T i j A b R hP hj hf hT hi hti hts hA4 hA hb hg
    obtain ⟨x, R0, hx⟩ : ∃ x R0, tS E t j = x :: R0 := by
      rw [hts]
      cases A with
      | nil => exact ⟨_, _, rfl⟩
      | cons a A => exact ⟨_, _, rfl⟩
    have hlT := hX.1 T
    have hnn : ∀ i : Nat, i = j → tS E t i ≠ [] := fun i hi => by rw [hi, hx]; simp
    have hk := hX.2 (T * 16 + i) (by omega) (by omega)
    have htop : topF (tS E t j) = x := by rw [hx]; rfl
    have hop := tS_op hx
    have hkt : tokP (E 13 (tI E t j)) (E 14 (tI E t j)) (E 15 (tI E t j)) := by rw [hti]; exact hk
    have hwr := wR_iff hP hx hkt
    have hin := PS_in hP hx
    have hnext := fun (N : Mem) => PS_next (N := N) hP hx hkt
    obtain ⟨p1, p2, p3, p4, p5, p6⟩ := id hP
    have z0 : 0 ≤ M 17 4 := by omega
    rw [htop]
    rw [hti] at hwr hnext
    unfold wO
    rw [p2 12 _ (by decide), if_neg (by omega)]
    by_cases hj60 : j = 60
    · rw [if_pos (by omega)]
      have hck : CK E t j = tI E t j := CK_bad hx (by omega)
      exact Or.inl ⟨rfl, by show up M 17 5 (T * 16 + i) 17 5 = _; rw [up_eq, hck, hti], by rw [hck, hti]; omega⟩
    rw [if_neg (by omega)]
    by_cases hw : wR M (T * 16 + i) (20 + x.2.2) = 0
    · rw [if_pos hw]
      have hck : CK E t j = tI E t j := CK_bad hx (fun _ => by rw [hti]; exact hwr.mp hw)
      exact Or.inl ⟨rfl, by show up (wM2 M (T * 16 + i) (20 + x.2.2)) 17 5 (T * 16 + i) 17 5 = _; rw [up_eq, hck, hti], by rw [hck, hti]; omega⟩
    rw [if_neg hw]
    have hr : rgtP E x.1 (T * 16 + i) (tU E t j) := Classical.not_not.mp (fun q => hw (hwr.mpr q))
    have hck : CK E t j = CK E t (j + 1) := CK_s (by omega) hx (by rw [hti]; exact hr)
    obtain ⟨q, hq⟩ := gdF_p (by omega) hg
    have hq2 : (E 12 T - (i + 1)).toNat = q := by omega
    rw [hq] at hg
    unfold gdF at hg
    rw [if_neg (by omega)] at hg
    have m13 : M 13 (T * 16 + i) = E 13 (T * 16 + i) := p2 13 _ (by decide)
    have m14 : M 14 (T * 16 + i) = E 14 (T * 16 + i) := p2 14 _ (by decide)
    rw [m13, m14]
    have n5 : ∀ y : Int, wM3 M (T * 16 + i) (20 + x.2.2) 19 y = M 19 y := fun y => wM3_n (by omega) (Or.inl (by decide))
    have n17 : wM3 M (T * 16 + i) (20 + x.2.2) 17 5 = M 17 5 := wM3_n (by omega) (Or.inr (by decide))
    by_cases o5 : E 13 (T * 16 + i) = 5
    · rw [if_pos o5]
      rw [if_neg (by omega), if_neg (by omega)] at hg
      obtain ⟨q2, hq3⟩ := gdF_p (by omega) hg
      have ha14 : 1 ≤ E 14 (T * 16 + i) ∧ E 14 (T * 16 + i) ≤ 3 := by omega
      have hgd := (hr.2.2.2 o5).1
      unfold gd at hgd
      obtain ⟨q3, hq4⟩ := gdF_p (Int.le_refl 1) hgd
      have eS : tS E t (j + 1) = (x.1, T * 16 + i + 1, (j : Int) + 1) :: tS E t j := by
        rw [tS_s, hti]
        unfold nxS
        rw [if_neg (by omega), if_neg (by omega), if_neg (by omega), if_pos o5, htop]
      have eI : tI E t (j + 1) = E 14 (T * 16 + i) * 16 + 0 := by
        rw [tI_s, hti]
        unfold nxI
        rw [if_pos o5]; omega
      have eU : tU E t (j + 1) = fun f => if f = E 14 (T * 16 + i) then 1 else tU E t j f := by
        rw [tU_s, hti]
        unfold nxU
        rw [if_pos o5]
      have hP1 : PS E t (j + 1) (up (wM3 M (T * 16 + i) (20 + x.2.2)) 19 (E 14 (T * 16 + i)) 1) := by
        refine hnext _ (fun c y h1 h2 => up_nc h1) (fun q => by omega) (fun f' h1 h2 => ?_)
        rw [eU]
        unfold up
        dsimp only
        by_cases z : f' = E 14 (T * 16 + i)
        · rw [if_pos ⟨rfl, z⟩, if_pos z]
        · rw [if_neg (fun w => z w.2), if_neg z, n5]
          exact p6 f' h1 h2
      have e20 : 20 + M 17 4 = 20 + (topF (tS E t (j + 1))).2.2 := by rw [eS, p1]; rfl
      rw [e20]
      have h1 := ih (up (wM3 M (T * 16 + i) (20 + x.2.2)) 19 (E 14 (T * 16 + i)) 1) (E 14 (T * 16 + i)) 0 (j + 1) [] (x.1, T * 16 + i + 1, (j : Int) + 1) (tS E t j) hP1 (by omega) (by omega) (by omega) (by omega) eI eS (by simp) (fun a h => absurd h List.not_mem_nil) (Or.inr ⟨ha14.1, by show 0 ≤ T * 16 + i + 1; omega⟩) (by rw [show E 12 (E 14 (T * 16 + i)) - 0 = E 12 (E 14 (T * 16 + i)) by omega, show E 14 (T * 16 + i) * 16 + 0 = 16 * E 14 (T * 16 + i) by omega]; exact hgd)
      rcases h1 with ⟨w1, w2, w3⟩ | ⟨w1, w2, j1, w3, w4, w5, w6, w7, w8, w9⟩
      · rw [if_pos w1]
        exact Or.inl ⟨rfl, by rw [hck]; exact w2, by rw [hck]; exact w3⟩
      · rw [if_neg (by omega)]
        have hx1 : topF (tS E t j1) = x := by rw [w6]; exact htop
        have h2 := ih (wO f (up (wM3 M (T * 16 + i) (20 + x.2.2)) 19 (E 14 (T * 16 + i)) 1) (E 14 (T * 16 + i)) 0 (20 + (topF (tS E t (j + 1))).2.2)).2 T (i + 1) j1 A b R w5 w4 (by omega) hT (by omega) (by rw [w7 (by show 0 ≤ T * 16 + i + 1; omega)]; show T * 16 + i + 1 = _; omega) (by rw [w6]; exact hts) hA4 hA hb (by rw [hq2, show T * 16 + (i + 1) = T * 16 + i + 1 by omega]; exact hg)
        rw [hx1] at h2
        have hcc : CK E t j1 = CK E t j := by rw [w8, hck]
        rcases h2 with ⟨v1, v2, v3⟩ | ⟨v1, v2, j2, v3, v4, v5, v6, v7, v8, v9⟩
        · exact Or.inl ⟨v1, by rw [v2, hcc], by rw [← hcc]; exact v3⟩
        · exact Or.inr ⟨v1, by rw [v2, w2, up_nc (by decide), n17], j2, by omega, v4, v5, v6, v7, by rw [v8, hcc], fun i h1 h2 => by
            by_cases q1 : i = j
            · exact hnn i q1
            · by_cases q2 : i < j1
              · exact w9 i (by omega) q2
              · exact v9 i (by omega) h2⟩
    rw [if_neg o5]
    by_cases o6 : E 13 (T * 16 + i) = 6
    · rw [if_pos o6]
      rw [if_pos o6] at hg
      have eS : tS E t (j + 1) = R0 := by
        rw [tS_s, hti, hx]
        unfold nxS
        rw [if_neg (by omega), if_neg (by omega), if_neg (by omega), if_neg o5, if_pos o6]
        rfl
      cases A with
      | nil =>
        have hxb : x = b ∧ R0 = R := by
          rw [hx] at hts
          simpa using hts
        obtain ⟨rfl, rfl⟩ := hxb
        simp only [List.length_nil] at hg
        have hq0 := gdF_0 (show gdF (E 13) q (T * 16 + i + 1) 0 = 1 from hg)
        obtain ⟨f', rfl⟩ : ∃ f', f = f' + 1 := ⟨f - 1, by omega⟩
        have e12 : up (wM3 M (T * 16 + i) (20 + x.2.2)) (20 + x.2.2) 6 (M 17 4) 12 T ≤ i + 1 := by
          rw [up_nc (by omega), wM3_n (by omega) (Or.inl (by decide)), p2 12 _ (by decide)]
          omega
        unfold wO
        rw [if_pos e12]
        refine Or.inr ⟨rfl, by show up (up _ _ _ _) 19 T 0 17 5 = _; rw [up_nc (by decide), up_nc (by omega), n17], j + 1, by omega, by omega, ?_, eS, fun h0 => ?_, hck.symm, fun i h1 h2 => hnn i (by omega)⟩
        · refine hnext _ (fun c y h1 h2 => ?_) (fun _ => ?_) (fun g h1 h2 => ?_)
          · show up (up _ _ _ _) 19 T 0 c y = _
            rw [up_nc h1]
            unfold up
            rw [if_neg (fun z => h2 ⟨z.1, z.2, o6⟩)]
          · show up (up _ _ _ _) 19 T 0 (20 + x.2.2) 6 = _
            rw [up_nc (by omega), up_eq, p1]
          · show up (up _ _ _ _) 19 T 0 19 g = _
            rw [tU_s, hti, hx]
            unfold nxU
            rw [if_neg o5]
            have hbk : (topF (x :: R0)).2.1 = x.2.1 := rfl
            rw [hbk]
            rcases hb with ⟨hT0, hb1⟩ | ⟨hT1, hb0⟩
            · rw [if_neg (by omega), up_nk (by omega), up_nc (by omega), n5]
              exact p6 g h1 h2
            · rw [if_pos ⟨o6, hb0⟩]
              try dsimp only
              by_cases z : g = T
              · rw [if_pos (by omega), z, up_eq]
              · rw [if_neg (by omega), up_nk z, up_nc (by omega), n5]
                exact p6 g h1 h2
        · rw [tI_s, hti, hx]
          unfold nxI
          rw [if_neg o5, if_pos ⟨o6, h0⟩]
          rfl
      | cons a A =>
        have hxa : x = a ∧ R0 = A ++ b :: R := by
          rw [hx] at hts
          simpa using hts
        obtain ⟨rfl, rfl⟩ := hxa
        simp only [List.length_cons] at hg hA4
        have hba : x.2.1 = -1 := hA x List.mem_cons_self
        have eI : tI E t (j + 1) = T * 16 + (i + 1) := by
          rw [tI_s, hti, hx]
          unfold nxI
          rw [if_neg o5, if_neg]
          · omega
          · rintro ⟨-, z⟩
            have z : 0 ≤ x.2.1 := z
            omega
        have eU : tU E t (j + 1) = tU E t j := by
          rw [tU_s, hti, hx]
          unfold nxU
          rw [if_neg o5, if_neg]
          rintro ⟨-, z⟩
          have z : 0 ≤ x.2.1 := z
          omega
        have hP1 : PS E t (j + 1) (up (wM3 M (T * 16 + i) (20 + x.2.2)) (20 + x.2.2) 6 (M 17 4)) := by
          refine hnext _ (fun c y h1 h2 => ?_) (fun _ => by rw [up_eq, p1]) (fun g h1 h2 => by rw [up_nc (by omega), n5, eU]; exact p6 g h1 h2)
          unfold up
          rw [if_neg (fun z => h2 ⟨z.1, z.2, o6⟩)]
        obtain ⟨y, R1, hy⟩ : ∃ y R1, A ++ b :: R = y :: R1 := by
          cases A with
          | nil => exact ⟨_, _, rfl⟩
          | cons a A => exact ⟨_, _, rfl⟩
        have e4 : M (20 + x.2.2) 4 = 20 + (topF (tS E t (j + 1))).2.2 := by rw [hin.2 y R1 hy, eS, hy]; rfl
        rw [e4]
        obtain ⟨q2, hq3⟩ := gdF_p (by omega) hg
        have h2 := ih (up (wM3 M (T * 16 + i) (20 + x.2.2)) (20 + x.2.2) 6 (M 17 4)) T (i + 1) (j + 1) A b R hP1 (by omega) (by omega) hT (by omega) eI eS (by omega) (fun z hz => hA z (List.mem_cons_of_mem _ hz)) hb (by rw [hq2, show T * 16 + (i + 1) = T * 16 + i + 1 by omega, show (A.length : Int) + 1 = ((A.length + 1 : Nat) : Int) + 1 - 1 by omega]; exact hg)
        rcases h2 with ⟨v1, v2, v3⟩ | ⟨v1, v2, j2, v3, v4, v5, v6, v7, v8, v9⟩
        · exact Or.inl ⟨v1, by rw [v2, hck], by rw [hck]; exact v3⟩
        · exact Or.inr ⟨v1, by rw [v2, up_nc (by omega), n17], j2, by omega, v4, v5, v6, v7, by rw [v8, hck], fun i h1 h2 => by
          by_cases q1 : i = j
          · exact hnn i q1
          · exact v9 i (by omega) h2⟩
    rw [if_neg o6]
    rw [if_neg o6] at hg
    by_cases op : opnP (E 13 (T * 16 + i))
    · rw [if_pos op]
      rw [if_pos op] at hg
      have hd4 : ¬ (A.length : Int) + 1 = 4 := fun z => by rw [if_pos z] at hg; omega
      rw [if_neg hd4] at hg
      have eS : ∃ y : Fr, tS E t (j + 1) = y :: (A ++ b :: R) ∧ y.2.1 = -1 ∧ y.2.2 = (j : Int) + 1 := by
        rw [tS_s, hti, ← hts]
        unfold nxS
        rcases op with z | z | z
        · rw [if_pos z]; exact ⟨_, rfl, rfl, rfl⟩
        · rw [if_neg (by omega), if_pos z]; exact ⟨_, rfl, rfl, rfl⟩
        · rw [if_neg (by omega), if_neg (by omega), if_pos z]; exact ⟨_, rfl, rfl, rfl⟩
      obtain ⟨y, eS, hy1, hy2⟩ := eS
      have eI : tI E t (j + 1) = T * 16 + (i + 1) := by
        rw [tI_s, hti]
        unfold nxI
        rw [if_neg o5, if_neg (fun z => o6 z.1)]
        omega
      have eU : tU E t (j + 1) = tU E t j := by
        rw [tU_s, hti]
        unfold nxU
        rw [if_neg o5, if_neg (fun z => o6 z.1)]
      have hP1 : PS E t (j + 1) (wM3 M (T * 16 + i) (20 + x.2.2)) := hnext _ (fun c y h1 h2 => rfl) (fun z => absurd z o6) (fun g h1 h2 => by rw [n5, eU]; exact p6 g h1 h2)
      have e20 : 20 + M 17 4 = 20 + (topF (tS E t (j + 1))).2.2 := by rw [eS, p1]; show _ = 20 + y.2.2; rw [hy2]
      rw [e20]
      obtain ⟨q2, hq3⟩ := gdF_p (by omega) hg
      have h2 := ih (wM3 M (T * 16 + i) (20 + x.2.2)) T (i + 1) (j + 1) (y :: A) b R hP1 (by omega) (by omega) hT (by omega) eI eS (by simp only [List.length_cons]; omega) (fun z hz => by rcases List.mem_cons.mp hz with rfl | hz; exact hy1; exact hA z hz) hb (by rw [hq2, show T * 16 + (i + 1) = T * 16 + i + 1 by omega]; simp only [List.length_cons]; rw [show (((A.length + 1 : Nat) : Int)) + 1 = (A.length : Int) + 1 + 1 by omega]; exact hg)
      rcases h2 with ⟨v1, v2, v3⟩ | ⟨v1, v2, j2, v3, v4, v5, v6, v7, v8, v9⟩
      · exact Or.inl ⟨v1, by rw [v2, hck], by rw [hck]; exact v3⟩
      · exact Or.inr ⟨v1, by rw [v2, n17], j2, by omega, v4, v5, v6, v7, by rw [v8, hck], fun i h1 h2 => by
          by_cases q1 : i = j
          · exact hnn i q1
          · exact v9 i (by omega) h2⟩
    · rw [if_neg op]
      rw [if_neg op] at hg
      have eS : tS E t (j + 1) = tS E t j := by
        rw [tS_s, hti]
        unfold nxS
        rw [if_neg (by omega), if_neg (by omega), if_neg (by omega), if_neg o5, if_neg o6]
      have eI : tI E t (j + 1) = T * 16 + (i + 1) := by
        rw [tI_s, hti]
        unfold nxI
        rw [if_neg o5, if_neg (fun z => o6 z.1)]
        omega
      have eU : tU E t (j + 1) = tU E t j := by
        rw [tU_s, hti]
        unfold nxU
        rw [if_neg o5, if_neg (fun z => o6 z.1)]
      have hP1 : PS E t (j + 1) (wM3 M (T * 16 + i) (20 + x.2.2)) := hnext _ (fun c y h1 h2 => rfl) (fun z => absurd z o6) (fun g h1 h2 => by rw [n5, eU]; exact p6 g h1 h2)
      obtain ⟨q2, hq3⟩ := gdF_p (by omega) hg
      have h2 := ih (wM3 M (T * 16 + i) (20 + x.2.2)) T (i + 1) (j + 1) A b R hP1 (by omega) (by omega) hT (by omega) eI (by rw [eS]; exact hts) hA4 hA hb (by rw [hq2, show T * 16 + (i + 1) = T * 16 + i + 1 by omega]; exact hg)
      rw [eS, htop] at h2
      rcases h2 with ⟨v1, v2, v3⟩ | ⟨v1, v2, j2, v3, v4, v5, v6, v7, v8, v9⟩
      · exact Or.inl ⟨v1, by rw [v2, hck], by rw [hck]; exact v3⟩
      · exact Or.inr ⟨v1, by rw [v2, n17], j2, by omega, v4, v5, v6, v7, by rw [v8, hck], fun i h1 h2 => by
          by_cases q1 : i = j
          · exact hnn i q1
          · exact v9 i (by omega) h2⟩
