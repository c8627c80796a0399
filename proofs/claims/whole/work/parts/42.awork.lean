-- ===== Asking: the work itself
theorem kp_0 {B M M' : Mem} (h : kp B M) (f : f0 M M') : kp B M' := fun c y hc hy => by rw [f c y hc]; exact h c y hc hy
theorem nxL_0 {M M' : Mem} {sl : Int} {L : List Int} (f : f0 M M') (hL : ∀ c ∈ L, c < 81) (h : nxL M sl L) : nxL M' sl L := nxL_eq L (fun c hc => f c sl (Or.inl (hL c hc))) h
theorem SETS_0 {M M' : Mem} {e : List Int} (f : f0 M M') (h : SETS M e) : SETS M' e := by
  have e6 : ∀ p ∈ e, M' p 6 = M p 6 := fun p hp => f p 6 (Or.inl (h.2.1 p hp).1.2)
  have rr : ∀ L : List Int, (∀ p ∈ L, p ∈ e) → ∀ c : Int, inR M' L c → inR M L c := fun L hL c ⟨p, p1, p2, p3⟩ => ⟨p, p1, p2, by rw [← e6 p (hL p p1)]; exact p3⟩
  refine ⟨nxL_0 f (fun c hc => (h.2.1 c hc).1.2) h.1, fun p hp => ⟨(h.2.1 p hp).1, by rw [e6 p hp]; exact (h.2.1 p hp).2⟩, fun p hp q => h.2.2.1 p hp (rr e (fun _ hx => hx) p q), fun done p cs hsp c hi hcc => h.2.2.2 done p cs hsp c (rr done (fun x hx => by rw [hsp]; exact List.mem_append_left _ hx) c hi) ⟨hcc.1, ?_⟩⟩
  rw [← e6 p (by rw [hsp]; exact List.mem_append_right _ List.mem_cons_self)]
  exact hcc.2
theorem RES_say5 {N : Mem} {s2 : SA} {here : List Int} {c v b8 ok : Int} (h : ASt N s2 here) (hv : v = if ok = 1 ∨ b8 = 0 then 1 else 0) : RES (match sayE c s2 with | .inl x => .inl x | .inr s3 => .inr (if ok = 1 ∨ b8 = 0 then 1 else 0, s3)) here v (adC N c) := by
  refine ⟨by rw [hv]; split <;> simp, ?_⟩
  rcases ASt_say h c with ⟨s1, h1, h2, h3, h4⟩ | ⟨h1, h2⟩
  · rw [h1]; exact ⟨hv, h2⟩
  · rw [h1, h2]; exact ASt_stop h (by decide)
/-- what is left of a MANY from number i on -/
def manT (B : Mem) (obj : Int → List Int → SA → Int ⊕ (Int × SA)) (r h : Int) (path : List Int) (k : Nat) (i ok : Int) (s : SA) : Int ⊕ (Int × SA) := match manE B obj r h path k i ok s with
  | .inl x => .inl x
  | .inr (v, s2) => match sayE 5 s2 with
    | .inl x => .inl x
    | .inr s3 => .inr (if v = 1 ∨ B h 8 = 0 then 1 else 0, s3)
def manV (B : Mem) (obj : Int → List Int → SA → Int ⊕ (Int × SA)) (r h : Int) (path : List Int) (s : SA) : Int ⊕ (Int × SA) := match sayE 4 s with
  | .inl x => .inl x
  | .inr s1 => manT B obj r h path (B 9 (celE B r h)).toNat 0 1 s1
def lnkW (b8 : Int) (R : Int ⊕ (Int × SA)) : Int ⊕ (Int × SA) := match R with | .inl x => .inl x | .inr (w, s1) => .inr (if w = 1 ∨ b8 = 0 then 1 else 0, s1)
theorem RES_lnk {R : Int ⊕ (Int × SA)} {here : List Int} {v v' b8 : Int} {M' : Mem} (h : RES R here v M') (hv : v' = if v = 1 ∨ b8 = 0 then 1 else 0) : RES (lnkW b8 R) here v' M' := by
  refine ⟨by rw [hv]; split <;> simp, ?_⟩
  cases R with
  | inl x => exact h.2
  | inr ws =>
    obtain ⟨w, s1⟩ := ws
    have h2 : v = w ∧ ASt M' s1 here := h.2
    exact ⟨by rw [hv, h2.1], h2.2⟩
def lnkV (B : Mem) (obj : Int → List Int → SA → Int ⊕ (Int × SA)) (r h : Int) (path : List Int) (s : SA) : Int ⊕ (Int × SA) := if B 9 (celE B r h) = 0 then nonE B h path s else lnkW (B h 8) (obj (B 10 (celE B r h * 4 + 0)) path s)
/-- what is left of an OBJECT, its ENTRIES es from here on -/
def objT (s : SA) (ok : Int) (s2 : SA) : Int ⊕ (Int × SA) := match sayE 3 s2 with
  | .inl x => .inl x
  | .inr s3 => if ok = 1 then .inr (1, s3) else .inr (0, s.1 ++ [1], s3.2.1, s3.2.2)
def objL (B : Mem) (d : Nat) (r : Int) (path : List Int) (s : SA) (es : List (List Int)) (ok : Int) (s2 : SA) : Int ⊕ (Int × SA) := match entE B (objE B d) r path es ok s2 with
  | .inl x => .inl x
  | .inr (ok, s2) => objT s ok s2
theorem objE_s {B : Mem} {d : Nat} {sets : List Int} {r : Int} {path : List Int} {s : SA} {es : List (List Int)} {s1 : SA} (h : cO B (B 7 (r - 1)) sets [] = some es) (h2 : sayE 2 s = .inr s1) : objE B (d + 1) sets r path s = objL B d r path s es 1 s1 := by
  unfold objE objL
  rw [h]
  dsimp only
  rw [h2]
  dsimp only
  cases entE B (objE B d) r path es 1 s1 with
  | inl x => rfl
  | inr ws => obtain ⟨a, b⟩ := ws; rfl
/-- the OBJECT, d levels above the deepest -/
def OBJC (l : Launch) (n : Nat) (B : Mem) (z : Int) (d : Nat) : Prop := ∀ (M : Mem) (s : SA) (here : List Int) (r c0 : Int) (rs : List Int) (deep : Int), deep + (d : Int) = 14 → 1 ≤ deep → kp B M → ASt M s here → (here.length : Int) ≤ 2 * (deep - 1) → (1 ≤ r ∧ r ≤ 12) → inP z (c0 :: rs) → SETS M (c0 :: rs) → AX l m_As_workOutObject (9 + 3 * d) [.inr 81, .inl r, .inr c0, .inl deep] n M (fun v M' => RES (objE B d (c0 :: rs) r here s) here v M' ∧ ff B (c0 :: rs) M M')
theorem k_Co_collectY (l : Launch) (n : Nat) (B : Mem) (hn : 117 ≤ n) (ty c0 : Int) (rs : List Int) (hS : SETS B (c0 :: rs)) (h4 : ∀ c : Int, inR B (c0 :: rs) c → B c 1 = 4 → 0 ≤ B c 2 ∧ B c 2 ≤ 3) (h61 : ∀ c : Int, inR B (c0 :: rs) c → B c 6 ≤ 61) : AY l m_Co_collect 3 [.inr 82, .inl ty, .inr c0] n B (fun v M' => ((cO B ty (c0 :: rs) [] = none → M' 82 4 = 1) ∧ ∀ es, cO B ty (c0 :: rs) [] = some es → v = (es.map hdE).headD (-1) ∧ ENT M' es ∧ M' 82 4 = 0) ∧ agr B M' ∧ fr2 B (c0 :: rs) M') := by
  have h := k_Co_collect l n B hn ty c0 rs hS h4 h61
  have e : (fun (r' : Option AV) (n' : Nat) (M' : Mem) => n' = n ∧ ∃ v : Int, r' = some (.inr v) ∧ (((cO B ty (c0 :: rs) [] = none → M' 82 4 = 1) ∧ ∀ es, cO B ty (c0 :: rs) [] = some es → v = (es.map hdE).headD (-1) ∧ ENT M' es ∧ M' 82 4 = 0) ∧ agr B M' ∧ fr2 B (c0 :: rs) M')) = (fun r n' M' => n' = n ∧ CPost B ty (c0 :: rs) r M') := by
    funext r' n' M'
    unfold CPost
    apply propext
    constructor
    · rintro ⟨rfl, v, rfl, ⟨h1, h2⟩, h3⟩
      exact ⟨rfl, ⟨v, rfl, h1, h2⟩, h3⟩
    · rintro ⟨rfl, ⟨v, rfl, h1, h2⟩, h3⟩
      exact ⟨rfl, v, rfl, ⟨h1, h2⟩, h3⟩
  unfold AY
  rw [e]
  exact h
set_option maxHeartbeats 4000000 in
theorem k_As_collectEntries (l : Launch) (n : Nat) (M : Mem) (hn : 117 ≤ n) (B : Mem) (z : Int) (hP : PLN B z) (s : SA) (here : List Int) (hk : kp B M) (hA : ASt M s here) (r c0 : Int) (rs : List Int) (deep : Int) (hd : deep ≤ 13) (hr : 1 ≤ r ∧ r ≤ 12) (hi : inP z (c0 :: rs)) (hS : SETS M (c0 :: rs)) : AY l m_As_collectEntries 4 [.inr 81, .inl r, .inr c0, .inl deep] n M (fun v M' => ((cO B (B 7 (r - 1)) (c0 :: rs) [] = none → STP M' (-4) here) ∧ ∀ es, cO B (B 7 (r - 1)) (c0 :: rs) [] = some es → v = (es.map hdE).headD (-1) ∧ ENT M' es ∧ ASt M' s here) ∧ ff B (c0 :: rs) M M') := by
  refine AM_intro (by decide) (Nat.le_of_ble_eq_true rfl) (fun X b0 D hC _ => ?_)
  show AW X b0 D true 0 0 _ n M 0 [some (.inr 81), some (.inl r), some (.inr c0), some (.inl deep), none] []
  have hb := ASt_b hA
  have hz := hP.1
  have h7 : M 7 (r - 1) = B 7 (r - 1) := hk 7 _ (by decide) (by omega)
  have hcO : cO M (M 7 (r - 1)) (c0 :: rs) [] = cO B (B 7 (r - 1)) (c0 :: rs) [] := by
    rw [h7]
    exact cO_kp hk _ _ (fun p hp => by have h1 := hi p hp; have := (hP.2.1 p h1.1 h1.2).1; omega) (fun c hc => by simp at hc)
  have hin : ∀ c : Int, inR M (c0 :: rs) c → inR B (c0 :: rs) c ∧ 20 < c ∧ c < 20 + z := fun c hc => ⟨inR_kp hP hk hi hc, inR_rg hP hi (inR_kp hP hk hi hc)⟩
  have h4 : ∀ c : Int, inR M (c0 :: rs) c → M c 1 = 4 → 0 ≤ M c 2 ∧ M c 2 ≤ 3 := fun c hc => by
    have h1 := (hin c hc).2
    rw [hk c 1 (Or.inl (by omega)) (by omega), hk c 2 (Or.inl (by omega)) (by omega)]
    exact (hP.2.2 c h1.1 h1.2).1
  have h61 : ∀ c : Int, inR M (c0 :: rs) c → M c 6 ≤ 61 := fun c hc => by
    have h1 := (hin c hc).2
    rw [hk c 6 (Or.inl (by omega)) (by omega)]
    have := (hP.2.1 c (by omega) h1.2).1
    omega
  refine A_ild3 hC d_As_collectEntries_0 ?_
  refine A_bipush hC d_As_collectEntries_1 (by decide) (by decide) ?_
  refine A_icmple (tgt := 12) hC d_As_collectEntries_3 (by decide) (fun h3 => ?_) (fun h3 => ?_)
  · refine A_ald0 hC d_As_collectEntries_12 ?_
    refine A_getI (kI := 6) hC d_As_collectEntries_13 fF_As_43 ⟨by decide, rfl⟩ rfl ly_81 (by omega) ?_
    refine A_ifeq (tgt := 21) hC d_As_collectEntries_16 (by decide) (fun h16 => ?_) (fun h16 => ?_)
    · refine A_ald0 hC d_As_collectEntries_21 ?_
      refine A_getCR (v := 82) hC d_As_collectEntries_22 fF_As_26 ⟨by decide, rfl⟩ ly_81 (by omega) ⟨rfl, by decide⟩ cv_81_1 ?_
      refine A_ald0 hC d_As_collectEntries_25 ?_
      refine A_getCR (v := 6) hC d_As_collectEntries_26 fF_As_22 ⟨by decide, rfl⟩ ly_81 (by omega) ⟨rfl, by decide⟩ cv_81_0 ?_
      refine A_ild1 hC d_As_collectEntries_29 ?_
      refine A_VF1 (as := [.inl r]) hC d_As_collectEntries_30 mv_Ro_typeOf lk_As_79 (by decide) sel_Ro_typeOf hq_Ro ly_6 (by omega) (k_Ro_typeOf l n M hn r (by omega)) rfl rfl (Nat.le_of_ble_eq_true rfl) ⟨Nat.zero_le _, Nat.zero_le _⟩ rfl ?_
      refine A_ald2 hC d_As_collectEntries_33 ?_
      refine A_VY (as := [.inl (M 7 (r - 1)), .inr c0]) hC d_As_collectEntries_34 mv_Co_collect lk_As_85 (by decide) sel_Co_collect hq_Co ly_82 (by omega) (k_Co_collectY l n M hn (M 7 (r - 1)) c0 rs hS h4 h61) rfl rfl (Nat.le_of_ble_eq_true rfl) ⟨Nat.zero_le _, Nat.zero_le _⟩ rfl (fun v M1 hv => ?_)
      obtain ⟨⟨hv1, hv2⟩, hag, hfr⟩ := hv
      rw [hcO] at hv1 hv2
      have hA1 : ASt M1 s here := ASt_eq hA (fun c y h1 h2 h3 => hfr c y h3 (fun q => by have := (hin c q).2; omega))
      have hf1 : ff B (c0 :: rs) M M1 := fun c y hc hy => by
        by_cases q : inR M (c0 :: rs) c
        · have hq := hin c q
          exact hag c y (by omega) (by constructor <;> (intro e; exact hy ⟨hq.1, by omega⟩))
        · exact hfr c y (by omega) q
      have fin1 : ¬ M1 82 4 = 0 → n = n ∧ ∃ u : Int, some (Sum.inr v : AV) = some (.inr u) ∧ ((cO B (B 7 (r - 1)) (c0 :: rs) [] = none → STP (up M1 81 6 (-4)) (-4) here) ∧ ∀ es, cO B (B 7 (r - 1)) (c0 :: rs) [] = some es → u = (es.map hdE).headD (-1) ∧ ENT (up M1 81 6 (-4)) es ∧ ASt (up M1 81 6 (-4)) s here) ∧ ff B (c0 :: rs) M (up M1 81 6 (-4)) := fun q => ⟨rfl, v, rfl, ⟨fun _ => ASt_stop hA1 (by decide), fun es he => absurd (hv2 es he).2.2 q⟩, ff_tr hf1 (ff_0 (f0_up (by decide)))⟩
      have fin0 : M1 82 4 = 0 → n = n ∧ ∃ u : Int, some (Sum.inr v : AV) = some (.inr u) ∧ ((cO B (B 7 (r - 1)) (c0 :: rs) [] = none → STP M1 (-4) here) ∧ ∀ es, cO B (B 7 (r - 1)) (c0 :: rs) [] = some es → u = (es.map hdE).headD (-1) ∧ ENT M1 es ∧ ASt M1 s here) ∧ ff B (c0 :: rs) M M1 := fun q => ⟨rfl, v, rfl, ⟨fun e => absurd (hv1 e) (by omega), fun es he => ⟨(hv2 es he).1, (hv2 es he).2.1, hA1⟩⟩, hf1⟩
      refine A_ast4 hC d_As_collectEntries_37 ?_
      refine A_ald0 hC d_As_collectEntries_39 ?_
      refine A_getCR (v := 82) hC d_As_collectEntries_40 fF_As_26 ⟨by decide, rfl⟩ ly_81 (by omega) ⟨rfl, by decide⟩ cv_81_1 ?_
      refine A_getI (kI := 4) hC d_As_collectEntries_43 fF_As_91 ⟨by decide, rfl⟩ rfl ly_82 (by omega) ?_
      refine A_ifeq (tgt := 55) hC d_As_collectEntries_46 (by decide) (fun h46 => ?_) (fun h46 => ?_)
      · refine A_ald4 hC d_As_collectEntries_55 ?_
        refine A_aret hC d_As_collectEntries_57 rfl (Nat.le_refl _) (Nat.le_refl _) ?_
        exact fin0 h46
      · refine A_ald0 hC d_As_collectEntries_49 ?_
        refine A_bipush hC d_As_collectEntries_50 (by decide) (by decide) ?_
        refine A_putI (kI := 6) hC d_As_collectEntries_52 fP_As_43 ⟨by decide, rfl⟩ rfl ly_81 (by omega) (fun _ => by decide) ?_
        refine A_ald4 hC d_As_collectEntries_55 ?_
        refine A_aret hC d_As_collectEntries_57 rfl (Nat.le_refl _) (Nat.le_refl _) ?_
        exact fin1 h46
    · exact absurd hb.1 h16
  · exact absurd hd h3
set_option maxHeartbeats 4000000 in
theorem k_As_collectEntries_14 (l : Launch) (n : Nat) (M : Mem) (hn : 117 ≤ n) (s : SA) (here : List Int) (hA : ASt M s here) (r c0 deep : Int) (hd : 14 ≤ deep) : AY l m_As_collectEntries 4 [.inr 81, .inl r, .inr c0, .inl deep] n M (fun v M' => v = -1 ∧ STP M' (-5) here ∧ f0 M M') := by
  refine AM_intro (by decide) (Nat.le_of_ble_eq_true rfl) (fun X b0 D hC _ => ?_)
  show AW X b0 D true 0 0 _ n M 0 [some (.inr 81), some (.inl r), some (.inr c0), some (.inl deep), none] []
  refine A_ild3 hC d_As_collectEntries_0 ?_
  refine A_bipush hC d_As_collectEntries_1 (by decide) (by decide) ?_
  refine A_icmple (tgt := 12) hC d_As_collectEntries_3 (by decide) (fun h3 => ?_) (fun h3 => ?_)
  · exact absurd h3 (by omega)
  · refine A_ald0 hC d_As_collectEntries_6 ?_
    refine A_bipush hC d_As_collectEntries_7 (by decide) (by decide) ?_
    refine A_putI (kI := 6) hC d_As_collectEntries_9 fP_As_43 ⟨by decide, rfl⟩ rfl ly_81 (by omega) (fun _ => by decide) ?_
    refine A_ald0 hC d_As_collectEntries_12 ?_
    refine A_getIE (x := -5) (kI := 6) hC d_As_collectEntries_13 fF_As_43 ⟨by decide, rfl⟩ rfl ly_81 (by omega) (by rw [up_eq]) ?_
    refine A_ifeq (tgt := 21) hC d_As_collectEntries_16 (by decide) (fun h16 => ?_) (fun h16 => ?_)
    · exact absurd h16 (by decide)
    · refine A_null hC d_As_collectEntries_19 ?_
      refine A_aret hC d_As_collectEntries_20 rfl (Nat.le_refl _) (Nat.le_refl _) ?_
      exact ⟨rfl, _, rfl, rfl, ASt_stop hA (by decide), f0_up (by decide)⟩
set_option maxHeartbeats 4000000 in
theorem OBJC_0 (l : Launch) (n : Nat) (B : Mem) (hn : 117 ≤ n) (z : Int) : OBJC l n B z 0 := by
  intro M s here r c0 rs deep hd h1 hk hA hl hr hi hS
  refine AM_intro (by decide) (Nat.le_of_ble_eq_true rfl) (fun X b0 D hC _ => ?_)
  show AW X b0 D true 0 0 _ n M 0 [some (.inr 81), some (.inl r), some (.inr c0), some (.inl deep), none, none, none, none] []
  refine A_ald0 hC d_As_workOutObject_0 ?_
  refine A_ild1 hC d_As_workOutObject_1 ?_
  refine A_ald2 hC d_As_workOutObject_2 ?_
  refine A_ild3 hC d_As_workOutObject_3 ?_
  refine A_VY (as := [.inl r, .inr c0, .inl deep]) hC d_As_workOutObject_4 mv_As_collectEntries lk_As_50 (by decide) sel_As_collectEntries hq_As ly_81 (by omega) (k_As_collectEntries_14 l n M hn s here hA r c0 deep (by omega)) rfl rfl (Nat.le_of_ble_eq_true rfl) ⟨Nat.zero_le _, Nat.zero_le _⟩ rfl (fun v M1 hv => ?_)
  obtain ⟨rfl, hS1, hf1⟩ := hv
  refine A_ast4 hC d_As_workOutObject_7 ?_
  refine A_ald0 hC d_As_workOutObject_9 ?_
  refine A_getI (kI := 4) hC d_As_workOutObject_10 fF_As_30 ⟨by decide, rfl⟩ rfl ly_81 (by omega) ?_
  refine A_ist5 hC d_As_workOutObject_13 ?_
  refine A_iconst hC d_As_workOutObject_15 (by decide) ?_
  refine A_ist6 hC d_As_workOutObject_16 ?_
  refine A_ald0 hC d_As_workOutObject_18 ?_
  refine A_iconst hC d_As_workOutObject_19 (by decide) ?_
  refine A_VF0 (as := [.inl 2]) hC d_As_workOutObject_20 mv_As_addCode lk_As_54 (by decide) sel_As_addCode hq_As ly_81 (by omega) (k_As_addCode l n M1 hn 2 (STP_b hS1).2.1) rfl rfl (Nat.le_of_ble_eq_true rfl) ⟨Nat.zero_le _, Nat.zero_le _⟩ rfl ?_
  rw [STP_ad hS1]
  refine A_ald4 hC d_As_workOutObject_23 ?_
  refine A_ast7 hC d_As_workOutObject_25 ?_
  refine A_ald7 hC d_As_workOutObject_27 ?_
  refine A_ifnull (tgt := 103) hC d_As_workOutObject_29 (by decide) (fun h29 => ?_) (fun h29 => ?_)
  · refine A_ald0 hC d_As_workOutObject_103 ?_
    refine A_iconst hC d_As_workOutObject_104 (by decide) ?_
    refine A_VF0 (as := [.inl 3]) hC d_As_workOutObject_105 mv_As_addCode lk_As_54 (by decide) sel_As_addCode hq_As ly_81 (by omega) (k_As_addCode l n M1 hn 3 (STP_b hS1).2.1) rfl rfl (Nat.le_of_ble_eq_true rfl) ⟨Nat.zero_le _, Nat.zero_le _⟩ rfl ?_
    rw [STP_ad hS1]
    refine A_ild6 hC d_As_workOutObject_108 ?_
    refine A_ifne (tgt := 126) hC d_As_workOutObject_110 (by decide) (fun h110 => ?_) (fun h110 => ?_)
    · refine A_ild6 hC d_As_workOutObject_126 ?_
      refine A_zret hC d_As_workOutObject_128 rfl (Nat.le_refl _) (Nat.le_refl _) (by first | decide | omega) ?_
      exact ⟨rfl, _, rfl, ⟨Or.inr rfl, hS1⟩, ff_0 hf1⟩
    · exact absurd h110 (by decide)
  · exact absurd (by decide) h29
set_option maxHeartbeats 4000000 in
theorem k_As_workOutLink (l : Launch) (n : Nat) (M : Mem) (hn : 117 ≤ n) (B : Mem) (z : Int) (hP : PLN B z) (hR : ROW B) (d : Nat) (hO : OBJC l n B z d) (s : SA) (here : List Int) (e : Int) (es : List Int) (r deep : Int) (hd : deep + 1 + (d : Int) = 14) (hd1 : 1 ≤ deep) (hk : kp B M) (hA : ASt M s here) (hp : 2 * (s.2.2.length : Int) + 1 ≤ s.2.1) (hl : (here.length : Int) ≤ 2 * deep - 1) (hr : 1 ≤ r ∧ r ≤ 12) (hi : inP z (e :: es)) (hS : SETS M (e :: es)) (hb : 0 ≤ B e 3 ∧ B e 3 ≤ 3) : AX l m_As_workOutLink (10 + 3 * d) [.inr 81, .inl r, .inr e, .inl deep] n M (fun v M' => RES (lnkV B (objE B d (e :: es)) r e here s) here v M' ∧ ff B (e :: es) M M') := by
  refine AM_intro (by decide) (Nat.le_of_ble_eq_true rfl) (fun X b0 D hC _ => ?_)
  show AW X b0 D true 0 0 _ n M 0 [some (.inr 81), some (.inl r), some (.inr e), some (.inl deep), none] []
  have he := (hS.2.1 e List.mem_cons_self).1
  have he3 : M e 3 = B e 3 := hk e 3 (Or.inl he.2) (by omega)
  have he8 : M e 8 = B e 8 := hk e 8 (Or.inl he.2) (by omega)
  have hA_b := ASt_b hA
  have hc0 : 0 ≤ celE B r e ∧ celE B r e < 48 := by unfold celE; omega
  have hcM : (r - 1) * 4 + M e 3 = celE B r e := by rw [he3]
  have h9 := hR.2.1 (celE B r e)
  have h9M : M 9 ((r - 1) * 4 + M e 3) = B 9 (celE B r e) := by rw [hcM]; exact hk 9 _ (by decide) (by omega)
  refine A_ald0 hC d_As_workOutLink_0 ?_
  refine A_getCR (v := 6) hC d_As_workOutLink_1 fF_As_22 ⟨by decide, rfl⟩ ly_81 (by omega) ⟨rfl, by decide⟩ cv_81_0 ?_
  refine A_ild1 hC d_As_workOutLink_4 ?_
  refine A_ald2 hC d_As_workOutLink_5 ?_
  refine A_getI (kI := 3) hC d_As_workOutLink_6 fF_As_111 ⟨by decide, rfl⟩ rfl (ly_S (by omega)) (by omega) ?_
  refine A_VF1 (as := [.inl r, .inl (M e 3)]) hC d_As_workOutLink_9 mv_Ro_linkedCount lk_As_122 (by omega) sel_Ro_linkedCount hq_Ro ly_6 (by omega) (k_Ro_linkedCount l n M hn r (M e 3) (by omega) (by omega)) rfl rfl (Nat.le_of_ble_eq_true rfl) ⟨Nat.zero_le _, Nat.zero_le _⟩ rfl ?_
  refine A_ifne (tgt := 21) hC d_As_workOutLink_12 (by decide) (fun h12 => ?_) (fun h12 => ?_)
  · refine A_ald0 hC d_As_workOutLink_21 ?_
    refine A_ald0 hC d_As_workOutLink_22 ?_
    refine A_getCR (v := 6) hC d_As_workOutLink_23 fF_As_22 ⟨by decide, rfl⟩ ly_81 (by omega) ⟨rfl, by decide⟩ cv_81_0 ?_
    refine A_ild1 hC d_As_workOutLink_26 ?_
    refine A_ald2 hC d_As_workOutLink_27 ?_
    refine A_getI (kI := 3) hC d_As_workOutLink_28 fF_As_111 ⟨by decide, rfl⟩ rfl (ly_S (by omega)) (by omega) ?_
    refine A_iconst hC d_As_workOutLink_31 (by decide) ?_
    refine A_VF1 (as := [.inl r, .inl (M e 3), .inl 0]) hC d_As_workOutLink_32 mv_Ro_linkedRow lk_As_125 (by omega) sel_Ro_linkedRow hq_Ro ly_6 (by omega) (k_Ro_linkedRow l n M hn r (M e 3) 0 (by omega) (by omega) (by omega)) rfl rfl (Nat.le_of_ble_eq_true rfl) ⟨Nat.zero_le _, Nat.zero_le _⟩ rfl ?_
    have hrM : M 10 (((r - 1) * 4 + M e 3) * 4 + 0) = B 10 (celE B r e * 4 + 0) := by rw [hcM]; exact hk 10 _ (by decide) (by omega)
    have hrow : 1 ≤ M 10 (((r - 1) * 4 + M e 3) * 4 + 0) ∧ M 10 (((r - 1) * 4 + M e 3) * 4 + 0) ≤ 12 := by rw [hrM]; exact hR.2.2.1 _ 0 hc0.1 hc0.2 (by omega) (by omega)
    refine A_ald2 hC d_As_workOutLink_35 ?_
    refine A_ild3 hC d_As_workOutLink_36 ?_
    refine A_iconst hC d_As_workOutLink_37 (by decide) ?_
    refine A_iadd hC d_As_workOutLink_38 (by omega) ?_
    refine A_VX (as := [.inl (M 10 (((r - 1) * 4 + (M e 3)) * 4 + 0)), .inr e, .inl (deep + 1)]) hC d_As_workOutLink_39 mv_As_workOutObject lk_As_46 (by omega) sel_As_workOutObject hq_As ly_81 (by omega) (hO M s here (M 10 (((r - 1) * 4 + (M e 3)) * 4 + 0)) e es (deep + 1) (by omega) (by omega) hk hA (by omega) hrow hi hS) rfl rfl (Nat.le_of_ble_eq_true rfl) ⟨Nat.zero_le _, Nat.zero_le _⟩ rfl (fun v M1 hv => ?_)
    obtain ⟨hv, hvf⟩ := hv
    rw [hrM] at hv
    have hv1 := hv.1
    have he81 : M1 e 8 = B e 8 := kp_ff hP hi hk hvf e 8 (Or.inl he.2) (by omega)
    refine A_ist4 hC d_As_workOutLink_42 ?_
    refine A_ild4 hC d_As_workOutLink_44 ?_
    refine A_ifne (tgt := 56) hC d_As_workOutLink_46 (by decide) (fun h46 => ?_) (fun h46 => ?_)
    · refine A_iconst hC d_As_workOutLink_56 (by decide) ?_
      refine A_goto (tgt := 61) hC d_As_workOutLink_57 (by decide) ?_
      refine A_zret hC d_As_workOutLink_61 rfl (Nat.le_refl _) (Nat.le_refl _) (by first | decide | omega) ?_
      refine ⟨rfl, _, rfl, ?_, hvf⟩
      unfold lnkV
      rw [if_neg (by omega)]
      exact RES_lnk hv (by first | rw [if_pos (by omega)] | rw [if_neg (by omega)])
    · refine A_ald2 hC d_As_workOutLink_49 ?_
      refine A_getI (kI := 8) hC d_As_workOutLink_50 fF_As_129 ⟨by decide, rfl⟩ rfl (ly_S (by omega)) (by omega) ?_
      refine A_ifne (tgt := 60) hC d_As_workOutLink_53 (by decide) (fun h53 => ?_) (fun h53 => ?_)
      · refine A_iconst hC d_As_workOutLink_60 (by decide) ?_
        refine A_zret hC d_As_workOutLink_61 rfl (Nat.le_refl _) (Nat.le_refl _) (by first | decide | omega) ?_
        refine ⟨rfl, _, rfl, ?_, hvf⟩
        unfold lnkV
        rw [if_neg (by omega)]
        exact RES_lnk hv (by first | rw [if_pos (by omega)] | rw [if_neg (by omega)])
      · refine A_iconst hC d_As_workOutLink_56 (by decide) ?_
        refine A_goto (tgt := 61) hC d_As_workOutLink_57 (by decide) ?_
        refine A_zret hC d_As_workOutLink_61 rfl (Nat.le_refl _) (Nat.le_refl _) (by first | decide | omega) ?_
        refine ⟨rfl, _, rfl, ?_, hvf⟩
        unfold lnkV
        rw [if_neg (by omega)]
        exact RES_lnk hv (by first | rw [if_pos (by omega)] | rw [if_neg (by omega)])
  · refine A_ald0 hC d_As_workOutLink_15 ?_
    refine A_ald2 hC d_As_workOutLink_16 ?_
    refine A_VF1 (as := [.inr e]) hC d_As_workOutLink_17 mv_As_workOutNothing lk_As_118 (by omega) sel_As_workOutNothing hq_As ly_81 (by omega) (k_As_workOutNothing l n M hn hA_b.2.1 hA_b.2.2.1 hA_b.2.2.2 e he) rfl rfl (Nat.le_of_ble_eq_true rfl) ⟨Nat.zero_le _, Nat.zero_le _⟩ rfl ?_
    refine A_zret hC d_As_workOutLink_20 rfl (Nat.le_refl _) (Nat.le_refl _) (by split <;> simp) ?_
    refine ⟨rfl, _, rfl, ?_, ff_0 f0_no⟩
    unfold lnkV
    rw [if_pos (by omega)]
    exact RES_non hA hp he8
set_option maxHeartbeats 4000000 in
theorem k_As_workOutMany (l : Launch) (n : Nat) (M : Mem) (hn : 117 ≤ n) (B : Mem) (z : Int) (hP : PLN B z) (hR : ROW B) (d : Nat) (hO : OBJC l n B z d) (s : SA) (here : List Int) (e : Int) (es : List Int) (r deep : Int) (hd : deep + 1 + (d : Int) = 14) (hd1 : 1 ≤ deep) (hk : kp B M) (hA : ASt M s here) (hp : 2 * (s.2.2.length : Int) + 1 ≤ s.2.1) (hl : (here.length : Int) ≤ 2 * deep - 1) (hr : 1 ≤ r ∧ r ≤ 12) (hi : inP z (e :: es)) (hS : SETS M (e :: es)) (hb : 0 ≤ B e 3 ∧ B e 3 ≤ 3) : AX l m_As_workOutMany (10 + 3 * d) [.inr 81, .inl r, .inr e, .inl deep] n M (fun v M' => RES (manV B (objE B d (e :: es)) r e here s) here v M' ∧ ff B (e :: es) M M') := by
  refine AM_intro (by decide) (Nat.le_of_ble_eq_true rfl) (fun X b0 D hC _ => ?_)
  show AW X b0 D true 0 0 _ n M 0 [some (.inr 81), some (.inl r), some (.inr e), some (.inl deep), none, none] []
  have he := (hS.2.1 e List.mem_cons_self).1
  have he3 : M e 3 = B e 3 := hk e 3 (Or.inl he.2) (by omega)
  have he8 : M e 8 = B e 8 := hk e 8 (Or.inl he.2) (by omega)
  have hA_b := ASt_b hA
  have hc0 : 0 ≤ celE B r e ∧ celE B r e < 48 := by unfold celE; omega
  have hcM : (r - 1) * 4 + M e 3 = celE B r e := by rw [he3]
  have h9 := hR.2.1 (celE B r e)
  have h9M : M 9 ((r - 1) * 4 + M e 3) = B 9 (celE B r e) := by rw [hcM]; exact hk 9 _ (by decide) (by omega)
  generalize hRR : manV B (objE B d (e :: es)) r e here s = RR
  show AW X b0 D true 0 0 (fx_Q X b0 D true 0 0 (fun r' n' M' => n' = n ∧ ∃ v : Int, r' = some (.inl v) ∧ RES RR here v M' ∧ ff B (e :: es) M M')) n M 0 [some (.inr 81), some (.inl r), some (.inr e), some (.inl deep), none, none] []
  have stop97 : ∀ (N : Mem) (x ok i : Int), (ok = 0 ∨ ok = 1) → STP N x here → ff B (e :: es) M N → RR = .inl x → AW X b0 D true 0 0 (fx_Q X b0 D true 0 0 (fun r' n' M' => n' = n ∧ ∃ v : Int, r' = some (.inl v) ∧ RES RR here v M' ∧ ff B (e :: es) M M')) n N 97 [some (.inr 81), some (.inl r), some (.inr e), some (.inl deep), some (.inl ok), some (.inl i)] [] := by
    intro N x ok i hok hSt hf hq
    refine A_ald0 hC d_As_workOutMany_97 ?_
    refine A_iconst hC d_As_workOutMany_98 (by decide) ?_
    refine A_VF0 (as := [.inl 5]) hC d_As_workOutMany_99 mv_As_addCode lk_As_54 (by omega) sel_As_addCode hq_As ly_81 (by omega) (k_As_addCode l n N hn 5 (STP_b hSt).2.1) rfl rfl (Nat.le_of_ble_eq_true rfl) ⟨Nat.zero_le _, Nat.zero_le _⟩ rfl ?_
    rw [STP_ad hSt]
    refine A_ild4 hC d_As_workOutMany_102 ?_
    refine A_ifne (tgt := 114) hC d_As_workOutMany_104 (by decide) (fun h104 => ?_) (fun h104 => ?_)
    · refine A_iconst hC d_As_workOutMany_114 (by decide) ?_
      refine A_goto (tgt := 119) hC d_As_workOutMany_115 (by decide) ?_
      refine A_zret hC d_As_workOutMany_119 rfl (Nat.le_refl _) (Nat.le_refl _) (by first | decide | omega) ?_
      refine ⟨rfl, _, rfl, ⟨by decide, ?_⟩, hf⟩
      rw [hq]
      exact hSt
    · refine A_ald2 hC d_As_workOutMany_107 ?_
      refine A_getI (kI := 8) hC d_As_workOutMany_108 fF_As_129 ⟨by decide, rfl⟩ rfl (ly_S (by omega)) (by omega) ?_
      refine A_ifne (tgt := 118) hC d_As_workOutMany_111 (by decide) (fun h111 => ?_) (fun h111 => ?_)
      · refine A_iconst hC d_As_workOutMany_118 (by decide) ?_
        refine A_zret hC d_As_workOutMany_119 rfl (Nat.le_refl _) (Nat.le_refl _) (by first | decide | omega) ?_
        refine ⟨rfl, _, rfl, ⟨by decide, ?_⟩, hf⟩
        rw [hq]
        exact hSt
      · refine A_iconst hC d_As_workOutMany_114 (by decide) ?_
        refine A_goto (tgt := 119) hC d_As_workOutMany_115 (by decide) ?_
        refine A_zret hC d_As_workOutMany_119 rfl (Nat.le_refl _) (Nat.le_refl _) (by first | decide | omega) ?_
        refine ⟨rfl, _, rfl, ⟨by decide, ?_⟩, hf⟩
        rw [hq]
        exact hSt
  have tail97 : ∀ (N : Mem) (ok i : Int) (s2 : SA), (ok = 0 ∨ ok = 1) → kp B N → ASt N s2 here → ff B (e :: es) M N → RR = (match sayE 5 s2 with | .inl x => .inl x | .inr s3 => .inr (if ok = 1 ∨ B e 8 = 0 then 1 else 0, s3)) → AW X b0 D true 0 0 (fx_Q X b0 D true 0 0 (fun r' n' M' => n' = n ∧ ∃ v : Int, r' = some (.inl v) ∧ RES RR here v M' ∧ ff B (e :: es) M M')) n N 97 [some (.inr 81), some (.inl r), some (.inr e), some (.inl deep), some (.inl ok), some (.inl i)] [] := by
    intro N ok i s2 hok hkN hAN hf hq
    have hn8 : N e 8 = B e 8 := hkN e 8 (Or.inl he.2) (by omega)
    have hb5 := ASt_b hAN
    refine A_ald0 hC d_As_workOutMany_97 ?_
    refine A_iconst hC d_As_workOutMany_98 (by decide) ?_
    refine A_VF0 (as := [.inl 5]) hC d_As_workOutMany_99 mv_As_addCode lk_As_54 (by omega) sel_As_addCode hq_As ly_81 (by omega) (k_As_addCode l n N hn 5 hb5.2.1) rfl rfl (Nat.le_of_ble_eq_true rfl) ⟨Nat.zero_le _, Nat.zero_le _⟩ rfl ?_
    refine A_ild4 hC d_As_workOutMany_102 ?_
    refine A_ifne (tgt := 114) hC d_As_workOutMany_104 (by decide) (fun h104 => ?_) (fun h104 => ?_)
    · refine A_iconst hC d_As_workOutMany_114 (by decide) ?_
      refine A_goto (tgt := 119) hC d_As_workOutMany_115 (by decide) ?_
      refine A_zret hC d_As_workOutMany_119 rfl (Nat.le_refl _) (Nat.le_refl _) (by first | decide | omega) ?_
      refine ⟨rfl, _, rfl, ?_, ff_tr hf (ff_0 f0_ad)⟩
      rw [hq]
      exact RES_say5 hAN (by first | rw [if_pos (by omega)] | rw [if_neg (by omega)])
    · refine A_ald2 hC d_As_workOutMany_107 ?_
      refine A_getI (kI := 8) hC d_As_workOutMany_108 fF_As_129 ⟨by decide, rfl⟩ rfl (ly_S (by omega)) (by omega) ?_
      refine A_eqi (adC_n (by omega) (by omega)) ?_
      refine A_ifne (tgt := 118) hC d_As_workOutMany_111 (by decide) (fun h111 => ?_) (fun h111 => ?_)
      · refine A_iconst hC d_As_workOutMany_118 (by decide) ?_
        refine A_zret hC d_As_workOutMany_119 rfl (Nat.le_refl _) (Nat.le_refl _) (by first | decide | omega) ?_
        refine ⟨rfl, _, rfl, ?_, ff_tr hf (ff_0 f0_ad)⟩
        rw [hq]
        exact RES_say5 hAN (by first | rw [if_pos (by omega)] | rw [if_neg (by omega)])
      · refine A_iconst hC d_As_workOutMany_114 (by decide) ?_
        refine A_goto (tgt := 119) hC d_As_workOutMany_115 (by decide) ?_
        refine A_zret hC d_As_workOutMany_119 rfl (Nat.le_refl _) (Nat.le_refl _) (by first | decide | omega) ?_
        refine ⟨rfl, _, rfl, ?_, ff_tr hf (ff_0 f0_ad)⟩
        rw [hq]
        exact RES_say5 hAN (by first | rw [if_pos (by omega)] | rw [if_neg (by omega)])
  have stop11 : ∀ (N : Mem) (x ok i : Int), (ok = 0 ∨ ok = 1) → kp B N → STP N x here → ff B (e :: es) M N → RR = .inl x → AW X b0 D true 0 0 (fx_Q X b0 D true 0 0 (fun r' n' M' => n' = n ∧ ∃ v : Int, r' = some (.inl v) ∧ RES RR here v M' ∧ ff B (e :: es) M M')) n N 11 [some (.inr 81), some (.inl r), some (.inr e), some (.inl deep), some (.inl ok), some (.inl i)] [] := by
    intro N x ok i hok hkN hSt hf hq
    have hn3 : N e 3 = B e 3 := hkN e 3 (Or.inl he.2) (by omega)
    have hs6 := (STP_b hSt).1
    refine A_ild5 hC d_As_workOutMany_11 ?_
    refine A_ald0 hC d_As_workOutMany_13 ?_
    refine A_getCR (v := 6) hC d_As_workOutMany_14 fF_As_22 ⟨by decide, rfl⟩ ly_81 (by omega) ⟨rfl, by decide⟩ cv_81_0 ?_
    refine A_ild1 hC d_As_workOutMany_17 ?_
    refine A_ald2 hC d_As_workOutMany_18 ?_
    refine A_getI (kI := 3) hC d_As_workOutMany_19 fF_As_111 ⟨by decide, rfl⟩ rfl (ly_S (by omega)) (by omega) ?_
    refine A_VF1 (as := [.inl r, .inl (N e 3)]) hC d_As_workOutMany_22 mv_Ro_linkedCount lk_As_122 (by omega) sel_Ro_linkedCount hq_Ro ly_6 (by omega) (k_Ro_linkedCount l n N hn r (N e 3) (by omega) (by omega)) rfl rfl (Nat.le_of_ble_eq_true rfl) ⟨Nat.zero_le _, Nat.zero_le _⟩ rfl ?_
    refine A_icmpge (tgt := 97) hC d_As_workOutMany_25 (by decide) (fun h25 => ?_) (fun h25 => ?_)
    · exact stop97 N x ok i hok hSt hf hq
    · refine A_ald0 hC d_As_workOutMany_28 ?_
      refine A_getI (kI := 6) hC d_As_workOutMany_29 fF_As_43 ⟨by decide, rfl⟩ rfl ly_81 (by omega) ?_
      refine A_ifne (tgt := 97) hC d_As_workOutMany_32 (by decide) (fun h32 => ?_) (fun h32 => ?_)
      · exact stop97 N x ok i hok hSt hf hq
      · exact absurd h32 hs6
  have loop : ∀ (k : Nat) (N : Mem) (i ok : Int) (s2 : SA), i + (k : Int) = B 9 (celE B r e) → 0 ≤ i → (ok = 0 ∨ ok = 1) → kp B N → ASt N s2 here → SETS N (e :: es) → ff B (e :: es) M N → RR = manT B (objE B d (e :: es)) r e here k i ok s2 → AW X b0 D true 0 0 (fx_Q X b0 D true 0 0 (fun r' n' M' => n' = n ∧ ∃ v : Int, r' = some (.inl v) ∧ RES RR here v M' ∧ ff B (e :: es) M M')) n N 11 [some (.inr 81), some (.inl r), some (.inr e), some (.inl deep), some (.inl ok), some (.inl i)] [] := by
    intro k
    induction k with
    | zero =>
      intro N i ok s2 hik hi0 hok hkN hAN hSN hf hq
      have hn3 : N e 3 = B e 3 := hkN e 3 (Or.inl he.2) (by omega)
      have h9N : N 9 ((r - 1) * 4 + N e 3) = B 9 (celE B r e) := by rw [hn3]; exact hkN 9 _ (by decide) (by omega)
      refine A_ild5 hC d_As_workOutMany_11 ?_
      refine A_ald0 hC d_As_workOutMany_13 ?_
      refine A_getCR (v := 6) hC d_As_workOutMany_14 fF_As_22 ⟨by decide, rfl⟩ ly_81 (by omega) ⟨rfl, by decide⟩ cv_81_0 ?_
      refine A_ild1 hC d_As_workOutMany_17 ?_
      refine A_ald2 hC d_As_workOutMany_18 ?_
      refine A_getI (kI := 3) hC d_As_workOutMany_19 fF_As_111 ⟨by decide, rfl⟩ rfl (ly_S (by omega)) (by omega) ?_
      refine A_VF1 (as := [.inl r, .inl (N e 3)]) hC d_As_workOutMany_22 mv_Ro_linkedCount lk_As_122 (by omega) sel_Ro_linkedCount hq_Ro ly_6 (by omega) (k_Ro_linkedCount l n N hn r (N e 3) (by omega) (by omega)) rfl rfl (Nat.le_of_ble_eq_true rfl) ⟨Nat.zero_le _, Nat.zero_le _⟩ rfl ?_
      refine A_icmpge (tgt := 97) hC d_As_workOutMany_25 (by decide) (fun h25 => ?_) (fun h25 => ?_)
      · exact tail97 N ok i s2 hok hkN hAN hf hq
      · exact absurd h25 (by omega)
    | succ k ih =>
      intro N i ok s2 hik hi0 hok hkN hAN hSN hf hq
      have hn3 : N e 3 = B e 3 := hkN e 3 (Or.inl he.2) (by omega)
      have h9N : N 9 ((r - 1) * 4 + N e 3) = B 9 (celE B r e) := by rw [hn3]; exact hkN 9 _ (by decide) (by omega)
      have hbN := ASt_b hAN
      have hln := hAN.2.2.2.1.2.2
      have hAI := ASt_in hAN (10 + i) (by omega)
      have hkI : kp B (goI N (10 + i)) := kp_0 hkN f0_in
      have hn3I : goI N (10 + i) e 3 = B e 3 := hkI e 3 (Or.inl he.2) (by omega)
      have hrM : goI N (10 + i) 10 (((r - 1) * 4 + goI N (10 + i) e 3) * 4 + i) = B 10 (celE B r e * 4 + i) := by rw [hn3I]; exact hkI 10 _ (by decide) (by omega)
      have hrow : 1 ≤ goI N (10 + i) 10 (((r - 1) * 4 + goI N (10 + i) e 3) * 4 + i) ∧ goI N (10 + i) 10 (((r - 1) * 4 + goI N (10 + i) e 3) * 4 + i) ≤ 12 := by rw [hrM]; exact hR.2.2.1 _ i hc0.1 hc0.2 (by omega) (by omega)
      refine A_ild5 hC d_As_workOutMany_11 ?_
      refine A_ald0 hC d_As_workOutMany_13 ?_
      refine A_getCR (v := 6) hC d_As_workOutMany_14 fF_As_22 ⟨by decide, rfl⟩ ly_81 (by omega) ⟨rfl, by decide⟩ cv_81_0 ?_
      refine A_ild1 hC d_As_workOutMany_17 ?_
      refine A_ald2 hC d_As_workOutMany_18 ?_
      refine A_getI (kI := 3) hC d_As_workOutMany_19 fF_As_111 ⟨by decide, rfl⟩ rfl (ly_S (by omega)) (by omega) ?_
      refine A_VF1 (as := [.inl r, .inl (N e 3)]) hC d_As_workOutMany_22 mv_Ro_linkedCount lk_As_122 (by omega) sel_Ro_linkedCount hq_Ro ly_6 (by omega) (k_Ro_linkedCount l n N hn r (N e 3) (by omega) (by omega)) rfl rfl (Nat.le_of_ble_eq_true rfl) ⟨Nat.zero_le _, Nat.zero_le _⟩ rfl ?_
      refine A_icmpge (tgt := 97) hC d_As_workOutMany_25 (by decide) (fun h25 => ?_) (fun h25 => ?_)
      · exact absurd h25 (by omega)
      · refine A_ald0 hC d_As_workOutMany_28 ?_
        refine A_getI (kI := 6) hC d_As_workOutMany_29 fF_As_43 ⟨by decide, rfl⟩ rfl ly_81 (by omega) ?_
        refine A_ifne (tgt := 97) hC d_As_workOutMany_32 (by decide) (fun h32 => ?_) (fun h32 => ?_)
        · exact absurd hbN.1 h32
        · refine A_ald0 hC d_As_workOutMany_35 ?_
          refine A_getCR (v := 83) hC d_As_workOutMany_36 fF_As_12 ⟨by decide, rfl⟩ ly_81 (by omega) ⟨rfl, by decide⟩ cv_81_2 ?_
          refine A_bipush hC d_As_workOutMany_39 (by decide) (by decide) ?_
          refine A_ild5 hC d_As_workOutMany_41 ?_
          refine A_iadd hC d_As_workOutMany_43 (by omega) ?_
          refine A_VF0 (as := [.inl (10 + i)]) hC d_As_workOutMany_44 mv_Pa_goInto lk_As_63 (by omega) sel_Pa_goInto hq_Pa ly_83 (by omega) (k_Pa_goInto l n N hn (10 + i) (by omega)) rfl rfl (Nat.le_of_ble_eq_true rfl) ⟨Nat.zero_le _, Nat.zero_le _⟩ rfl ?_
          refine A_ald0 hC d_As_workOutMany_47 ?_
          refine A_ald0 hC d_As_workOutMany_48 ?_
          refine A_getCR (v := 6) hC d_As_workOutMany_49 fF_As_22 ⟨by decide, rfl⟩ ly_81 (by omega) ⟨rfl, by decide⟩ cv_81_0 ?_
          refine A_ild1 hC d_As_workOutMany_52 ?_
          refine A_ald2 hC d_As_workOutMany_53 ?_
          refine A_getI (kI := 3) hC d_As_workOutMany_54 fF_As_111 ⟨by decide, rfl⟩ rfl (ly_S (by omega)) (by omega) ?_
          refine A_ild5 hC d_As_workOutMany_57 ?_
          refine A_VF1 (as := [.inl r, .inl ((goI N (10 + i)) e 3), .inl i]) hC d_As_workOutMany_59 mv_Ro_linkedRow lk_As_125 (by omega) sel_Ro_linkedRow hq_Ro ly_6 (by omega) (k_Ro_linkedRow l n (goI N (10 + i)) hn r ((goI N (10 + i)) e 3) i (by omega) (by omega) (by omega)) rfl rfl (Nat.le_of_ble_eq_true rfl) ⟨Nat.zero_le _, Nat.zero_le _⟩ rfl ?_
          refine A_ald2 hC d_As_workOutMany_62 ?_
          refine A_ild3 hC d_As_workOutMany_63 ?_
          refine A_iconst hC d_As_workOutMany_64 (by decide) ?_
          refine A_iadd hC d_As_workOutMany_65 (by omega) ?_
          refine A_VX (as := [.inl ((goI N (10 + i)) 10 (((r - 1) * 4 + ((goI N (10 + i)) e 3)) * 4 + i)), .inr e, .inl (deep + 1)]) hC d_As_workOutMany_66 mv_As_workOutObject lk_As_46 (by omega) sel_As_workOutObject hq_As ly_81 (by omega) (hO (goI N (10 + i)) s2 (here ++ [10 + i]) ((goI N (10 + i)) 10 (((r - 1) * 4 + ((goI N (10 + i)) e 3)) * 4 + i)) e es (deep + 1) (by omega) (by omega) hkI hAI (by simp; omega) hrow hi (SETS_0 f0_in hSN)) rfl rfl (Nat.le_of_ble_eq_true rfl) ⟨Nat.zero_le _, Nat.zero_le _⟩ rfl (fun v M1 hv => ?_)
          obtain ⟨hv, hvf⟩ := hv
          rw [hrM] at hv
          have hv1 := hv.1
          have hk1 : kp B M1 := kp_ff hP hi hkI hvf
          have hf1 : ff B (e :: es) M (goO M1) := ff_tr hf (ff_tr (ff_0 f0_in) (ff_tr hvf (ff_0 f0_out)))
          have hS1 : SETS (goO M1) (e :: es) := SETS_0 f0_out (SETS_ff hP hkI hi (SETS_0 f0_in hSN) hvf)
          have join : ∀ ok2 : Int, ok2 = (if v = 1 ∧ ok = 1 then 1 else 0) → AW X b0 D true 0 0 (fx_Q X b0 D true 0 0 (fun r' n' M' => n' = n ∧ ∃ v : Int, r' = some (.inl v) ∧ RES RR here v M' ∧ ff B (e :: es) M M')) n M1 82 [some (.inr 81), some (.inl r), some (.inr e), some (.inl deep), some (.inl ok), some (.inl i)] [.inl ok2] := by
            intro ok2 hok2
            have hok3 : ok2 = 0 ∨ ok2 = 1 := by rw [hok2]; split <;> simp
            cases hob : objE B d (e :: es) (B 10 (celE B r e * 4 + i)) (here ++ [10 + i]) s2 with
            | inl x =>
              rw [hob] at hv
              have hSt : STP M1 x (here ++ [10 + i]) := hv.2
              have hbS := STP_b hSt
              refine A_ist4 hC d_As_workOutMany_82 ?_
              refine A_ald0 hC d_As_workOutMany_84 ?_
              refine A_getCR (v := 83) hC d_As_workOutMany_85 fF_As_12 ⟨by decide, rfl⟩ ly_81 (by omega) ⟨rfl, by decide⟩ cv_81_2 ?_
              refine A_VF0 (as := []) hC d_As_workOutMany_88 mv_Pa_goOut lk_As_69 (by omega) sel_Pa_goOut hq_Pa ly_83 (by omega) (k_Pa_goOut l n M1 hn (by omega)) rfl rfl (Nat.le_of_ble_eq_true rfl) ⟨Nat.zero_le _, Nat.zero_le _⟩ rfl ?_
              refine A_iinc5 hC d_As_workOutMany_91 (by omega) ?_
              refine A_goto (tgt := 11) hC d_As_workOutMany_94 (by decide) ?_
              refine stop11 (goO M1) x ok2 (i + 1) hok3 (kp_0 hk1 f0_out) (STP_out hSt) hf1 ?_
              rw [hq]
              unfold manT manE
              rw [hob]
            | inr ws =>
              obtain ⟨w, s3⟩ := ws
              rw [hob] at hv
              have hv2 : v = w ∧ ASt M1 s3 (here ++ [10 + i]) := hv.2
              have hbS := ASt_b hv2.2
              refine A_ist4 hC d_As_workOutMany_82 ?_
              refine A_ald0 hC d_As_workOutMany_84 ?_
              refine A_getCR (v := 83) hC d_As_workOutMany_85 fF_As_12 ⟨by decide, rfl⟩ ly_81 (by omega) ⟨rfl, by decide⟩ cv_81_2 ?_
              refine A_VF0 (as := []) hC d_As_workOutMany_88 mv_Pa_goOut lk_As_69 (by omega) sel_Pa_goOut hq_Pa ly_83 (by omega) (k_Pa_goOut l n M1 hn (by omega)) rfl rfl (Nat.le_of_ble_eq_true rfl) ⟨Nat.zero_le _, Nat.zero_le _⟩ rfl ?_
              refine A_iinc5 hC d_As_workOutMany_91 (by omega) ?_
              refine A_goto (tgt := 11) hC d_As_workOutMany_94 (by decide) ?_
              refine ih (goO M1) (i + 1) ok2 s3 (by omega) (by omega) hok3 (kp_0 hk1 f0_out) (ASt_out hv2.2) hS1 hf1 ?_
              rw [hq, hok2, hv2.1]
              unfold manT
              rw [manE, hob]
          refine A_ifeq (tgt := 81) hC d_As_workOutMany_69 (by decide) (fun h69 => ?_) (fun h69 => ?_)
          · refine A_iconst hC d_As_workOutMany_81 (by decide) ?_
            exact join _ (by first | rw [if_pos (by omega)] | rw [if_neg (by omega)])
          · refine A_ild4 hC d_As_workOutMany_72 ?_
            refine A_ifeq (tgt := 81) hC d_As_workOutMany_74 (by decide) (fun h74 => ?_) (fun h74 => ?_)
            · refine A_iconst hC d_As_workOutMany_81 (by decide) ?_
              exact join _ (by first | rw [if_pos (by omega)] | rw [if_neg (by omega)])
            · refine A_iconst hC d_As_workOutMany_77 (by decide) ?_
              refine A_goto (tgt := 82) hC d_As_workOutMany_78 (by decide) ?_
              exact join _ (by first | rw [if_pos (by omega)] | rw [if_neg (by omega)])
  refine A_iconst hC d_As_workOutMany_0 (by decide) ?_
  refine A_ist4 hC d_As_workOutMany_1 ?_
  refine A_ald0 hC d_As_workOutMany_3 ?_
  refine A_iconst hC d_As_workOutMany_4 (by decide) ?_
  refine A_VF0 (as := [.inl 4]) hC d_As_workOutMany_5 mv_As_addCode lk_As_54 (by omega) sel_As_addCode hq_As ly_81 (by omega) (k_As_addCode l n M hn 4 hA_b.2.1) rfl rfl (Nat.le_of_ble_eq_true rfl) ⟨Nat.zero_le _, Nat.zero_le _⟩ rfl ?_
  refine A_iconst hC d_As_workOutMany_8 (by decide) ?_
  refine A_ist5 hC d_As_workOutMany_9 ?_
  rcases ASt_say hA 4 with ⟨s1, h1, h2, h3, h4⟩ | ⟨h1, h2⟩
  · refine loop (B 9 (celE B r e)).toNat (adC M 4) 0 1 s1 (by omega) (by omega) (Or.inr rfl) (kp_0 hk f0_ad) h2 (SETS_0 f0_ad hS) (ff_0 f0_ad) ?_
    rw [← hRR]
    unfold manV
    rw [h1]
  · rw [h2]
    refine stop11 (up M 81 6 (-5)) (-5) 1 0 (Or.inr rfl) (kp_0 hk (f0_up (by decide))) (ASt_stop hA (by decide)) (ff_0 (f0_up (by decide))) ?_
    rw [← hRR]
    unfold manV
    rw [h1]
