-- ===== what the evaluator leaves alone
def RES (R : Int ⊕ (Int × SA)) (here : List Int) (v : Int) (M' : Mem) : Prop := (v = 0 ∨ v = 1) ∧ match R with
  | .inl x => STP M' x here
  | .inr ws => v = ws.1 ∧ ASt M' ws.2 here
def EXT (s s' : SA) : Prop := (∃ t : List Int, s'.1 = s.1 ++ t) ∧ s.2.1 ≤ s'.2.1
theorem EXT_r {s : SA} : EXT s s := ⟨⟨[], by simp⟩, Int.le_refl _⟩
theorem EXT_t {s s' s'' : SA} (h : EXT s s') (h' : EXT s' s'') : EXT s s'' := by
  obtain ⟨⟨t, ht⟩, h1⟩ := h
  obtain ⟨⟨t', ht'⟩, h2⟩ := h'
  exact ⟨⟨t ++ t', by rw [ht', ht, List.append_assoc]⟩, by omega⟩
theorem sayE_ext {c : Int} {s s' : SA} (h : sayE c s = .inr s') : EXT s s' ∧ s'.2.1 = s.2.1 + 1 ∧ s'.2.2 = s.2.2 ∧ s.2.1 < 120 := by
  unfold sayE at h
  split at h
  · cases h
  · cases h
    exact ⟨⟨⟨[c], rfl⟩, by show s.2.1 ≤ s.2.1 + 1; omega⟩, rfl, rfl, by omega⟩
theorem nonE_ext {B : Mem} {e : Int} {path : List Int} {s s' : SA} {v : Int} (h : nonE B e path s = .inr (v, s')) : EXT s s' := by
  unfold nonE at h
  cases hs : sayE 1 s with
  | inl x => rw [hs] at h; cases h
  | inr s1 =>
    rw [hs] at h
    have e1 := (sayE_ext hs).1
    dsimp only at h
    split at h
    · cases h; exact e1
    · cases h; exact ⟨e1.1, e1.2⟩
abbrev oX (obj : Int → List Int → SA → Int ⊕ (Int × SA)) : Prop := ∀ (r : Int) (p : List Int) (s s' : SA) (v : Int), obj r p s = .inr (v, s') → EXT s s'
theorem manE_ext {B : Mem} {obj : Int → List Int → SA → Int ⊕ (Int × SA)} (ho : oX obj) {r e : Int} {path : List Int} : ∀ (k : Nat) (i ok : Int) (s s' : SA) (v : Int), manE B obj r e path k i ok s = .inr (v, s') → EXT s s'
  | 0, i, ok, s, s', v, h => by cases h; exact EXT_r
  | k + 1, i, ok, s, s', v, h => by
    unfold manE at h
    cases hs : obj (B 10 (celE B r e * 4 + i)) (path ++ [10 + i]) s with
    | inl x => rw [hs] at h; cases h
    | inr ws =>
      obtain ⟨w, s1⟩ := ws
      rw [hs] at h
      exact EXT_t (ho _ _ _ _ _ hs) (manE_ext ho k _ _ _ _ _ h)
theorem valE_ext {B : Mem} {obj : Int → List Int → SA → Int ⊕ (Int × SA)} (ho : oX obj) {r e : Int} {path : List Int} {s s' : SA} {v : Int} (h : valE B obj r e path s = .inr (v, s')) : EXT s s' := by
  unfold valE at h
  split at h
  · cases hs : sayE (2000 + B 7 (r - 1)) s with
    | inl x => rw [hs] at h; cases h
    | inr s1 => rw [hs] at h; cases h; exact (sayE_ext hs).1
  · split at h
    · split at h
      · exact nonE_ext h
      · cases hs : obj (B 10 (celE B r e * 4 + 0)) path s with
        | inl x => rw [hs] at h; cases h
        | inr ws => obtain ⟨w, s1⟩ := ws; rw [hs] at h; cases h; exact ho _ _ _ _ _ hs
    · split at h
      · cases h4 : sayE 4 s with
        | inl x => rw [h4] at h; cases h
        | inr s1 =>
          rw [h4] at h
          dsimp only at h
          cases hm : manE B obj r e path (B 9 (celE B r e)).toNat 0 1 s1 with
          | inl x => rw [hm] at h; cases h
          | inr ws =>
            obtain ⟨w, s2⟩ := ws
            rw [hm] at h
            dsimp only at h
            cases h5 : sayE 5 s2 with
            | inl x => rw [h5] at h; cases h
            | inr s3 =>
              rw [h5] at h
              cases h
              exact EXT_t (sayE_ext h4).1 (EXT_t (manE_ext ho _ _ _ _ _ _ hm) (sayE_ext h5).1)
      · split at h
        · exact nonE_ext h
        · cases hs : sayE (1000 + B 8 (celE B r e)) s with
          | inl x => rw [hs] at h; cases h
          | inr s1 => rw [hs] at h; cases h; exact (sayE_ext hs).1
theorem entE_ext {B : Mem} {obj : List Int → Int → List Int → SA → Int ⊕ (Int × SA)} (ho : ∀ e, oX (obj e)) {r : Int} {path : List Int} : ∀ (es : List (List Int)) (ok : Int) (s s' : SA) (v : Int), entE B obj r path es ok s = .inr (v, s') → EXT s s'
  | [], ok, s, s', v, h => by cases h; exact EXT_r
  | e :: es, ok, s, s', v, h => by
    unfold entE at h
    cases hs : sayE (10 + B (hdE e) 2) s with
    | inl x => rw [hs] at h; cases h
    | inr s1 =>
      rw [hs] at h
      dsimp only at h
      cases hv : valE B (obj e) r (hdE e) (path ++ [B (hdE e) 2]) s1 with
      | inl x => rw [hv] at h; cases h
      | inr ws =>
        obtain ⟨w, s2⟩ := ws
        rw [hv] at h
        exact EXT_t (sayE_ext hs).1 (EXT_t (valE_ext (ho e) hv) (entE_ext ho es _ _ _ _ h))
theorem objE_ext {B : Mem} : ∀ (d : Nat) (sets : List Int), oX (objE B d sets)
  | 0, sets => fun r p s s' v h => by cases h
  | d + 1, sets => fun r p s s' v h => by
    unfold objE at h
    cases hc : cO B (B 7 (r - 1)) sets [] with
    | none => rw [hc] at h; cases h
    | some es =>
      rw [hc] at h
      dsimp only at h
      cases h2 : sayE 2 s with
      | inl x => rw [h2] at h; cases h
      | inr s1 =>
        rw [h2] at h
        dsimp only at h
        cases he : entE B (objE B d) r p es 1 s1 with
        | inl x => rw [he] at h; cases h
        | inr ws =>
          obtain ⟨ok, s2⟩ := ws
          rw [he] at h
          dsimp only at h
          cases h3 : sayE 3 s2 with
          | inl x => rw [h3] at h; cases h
          | inr s3 =>
            rw [h3] at h
            have q := EXT_t (sayE_ext h2).1 (EXT_t (entE_ext (objE_ext d) es _ _ _ _ he) (sayE_ext h3).1)
            dsimp only at h
            split at h
            · cases h; exact q
            · cases h; exact ⟨⟨[1], rfl⟩, q.2⟩
theorem ASt_eq {M M' : Mem} {s : SA} {here : List Int} (h : ASt M s here) (he : ∀ c y : Int, 81 ≤ c → c ≤ 87 → c ≠ 82 → M' c y = M c y) : ASt M' s here := by
  obtain ⟨⟨a1, a2, a3⟩, ⟨b1, b2⟩, c1, ⟨d1, d2, d3⟩, e1, e2, e3⟩ := h
  refine ⟨⟨by rw [he _ _ (by decide) (by decide) (by decide)]; exact a1, arL_eq (fun y => he _ _ (by decide) (by decide) (by decide)) a2, a3⟩, ⟨by rw [he _ _ (by decide) (by decide) (by decide)]; exact b1, b2⟩, by rw [he _ _ (by decide) (by decide) (by decide)]; exact c1, ⟨by rw [he _ _ (by decide) (by decide) (by decide)]; exact d1, arL_eq (fun y => he _ _ (by decide) (by decide) (by decide)) d2, d3⟩, by rw [he _ _ (by decide) (by decide) (by decide)]; exact e1, e2, fun k hk => ?_⟩
  obtain ⟨f1, f2, f3⟩ := e3 k hk
  exact ⟨by rw [he _ _ (by decide) (by decide) (by decide)]; exact f1, f2, arL_eq (fun y => he _ _ (by decide) (by decide) (by decide)) f3⟩
/-- an OBJECT is cut back to nothing -/
theorem ASt_cut {M : Mem} {s s0 : SA} {here : List Int} (h : ASt M s here) (hx : EXT s0 s) (h0 : (s0.1.length : Int) + 1 ≤ s.2.1) : ASt (up (up M 87 (s0.1.length : Int) 1) 81 4 ((s0.1.length : Int) + 1)) (s0.1 ++ [1], s.2.1, s.2.2) here := by
  obtain ⟨⟨a1, a2, a3⟩, ⟨b1, b2⟩, c1, ⟨d1, d2, d3⟩, e1, e2, e3⟩ := h
  obtain ⟨⟨t, ht⟩, -⟩ := hx
  rw [ht] at a2
  refine ⟨⟨?_, ?_, ?_⟩, ⟨?_, b2⟩, ?_, ⟨?_, ?_, d3⟩, ?_, e2, fun k hk => ?_⟩
  · rw [up_eq]; simp
  · have := arL_snoc (v := 1) (arL_left a2)
    rw [Int.zero_add] at this
    exact arL_eq (fun y => by rw [up_nc (by decide)]) this
  · simp; omega
  · rw [up_nk (by decide), up_nc (by decide)]; exact b1
  · rw [up_nk (by decide), up_nc (by decide)]; exact c1
  · rw [up_nc (by decide), up_nc (by decide)]; exact d1
  · exact arL_eq (fun y => by rw [up_nc (by decide), up_nc (by decide)]) d2
  · rw [up_nc (by decide), up_nc (by decide)]; exact e1
  · rw [up_nc (by decide), up_nc (by decide)]
    obtain ⟨f1, f2, f3⟩ := e3 k hk
    exact ⟨f1, f2, arL_eq (fun y => by rw [up_nc (by decide), up_nc (by decide)]) f3⟩
theorem RES_non {B M : Mem} {s : SA} {here : List Int} {e : Int} (h : ASt M s here) (hp : 2 * (s.2.2.length : Int) + 1 ≤ s.2.1) (h8 : M e 8 = B e 8) : RES (nonE B e here s) here (if M e 8 = 0 then 1 else 0) (noM M e) := by
  refine ⟨by split <;> simp, ?_⟩
  unfold nonE noM
  rcases ASt_say h 1 with ⟨s1, h1, h2, h3, h4⟩ | ⟨h1, h2⟩
  · rw [h1]
    by_cases q : B e 8 = 0
    · rw [if_pos (by rw [h8]; exact q), if_pos (by rw [h8]; exact q)]
      dsimp only
      rw [if_pos q]
      exact ⟨rfl, h2⟩
    · rw [if_neg (by rw [h8]; exact q), if_neg (by rw [h8]; exact q)]
      dsimp only
      rw [if_neg q]
      exact ⟨rfl, ASt_note h2 (by rw [h3, h4]; omega)⟩
  · rw [h1, h2]
    have := ASt_stop h (x := -5) (by decide)
    show STP (if M e 8 = 0 then up M 81 6 (-5) else ntH (up M 81 6 (-5))) (-5) here
    split
    · exact this
    · exact STP_nt this
theorem RES_say {M : Mem} {s : SA} {here : List Int} {c : Int} (h : ASt M s here) : RES (match sayE c s with | .inl x => .inl x | .inr s1 => .inr (1, s1)) here 1 (adC M c) := by
  refine ⟨Or.inr rfl, ?_⟩
  rcases ASt_say h c with ⟨s1, h1, h2, h3, h4⟩ | ⟨h1, h2⟩
  · rw [h1]; exact ⟨rfl, h2⟩
  · rw [h1, h2]; exact ASt_stop h (by decide)
theorem RES_link {R : Int ⊕ (Int × SA)} {here : List Int} {v v' b8 : Int} {M' : Mem} (h : RES R here v M') (hv : v' = if v = 1 ∨ b8 = 0 then 1 else 0) : RES (match R with | .inl x => .inl x | .inr (w, s1) => .inr (if w = 1 ∨ b8 = 0 then 1 else 0, s1)) here v' M' := by
  refine ⟨by rw [hv]; split <;> simp, ?_⟩
  cases R with
  | inl x => exact h.2
  | inr ws =>
    obtain ⟨w, s1⟩ := ws
    have h2 : v = w ∧ ASt M' s1 here := h.2
    exact ⟨by rw [hv, h2.1], h2.2⟩
theorem SETS_ff {B M M' : Mem} {z : Int} (hP : PLN B z) (hk : kp B M) {e : List Int} (he : inP z e) (h : SETS M e) (f : ff B e M M') : SETS M' e := by
  have hA := SETS_ac hP hk he h
  have e6 : ∀ p ∈ e, M' p 6 = M p 6 := fun p hp => f p 6 (Or.inl (by have := he p hp; have := hP.1; omega)) (by omega)
  have rr : ∀ L : List Int, (∀ p ∈ L, p ∈ e) → ∀ c : Int, inR M' L c → inR M L c := fun L hL c ⟨p, p1, p2, p3⟩ => ⟨p, p1, p2, by rw [← e6 p (hL p p1)]; exact p3⟩
  refine ⟨nxL_eq e (fun c hc => f c 10 (Or.inl (by have := he c hc; have := hP.1; omega)) (fun q => hA.1 c hc q.1)) h.1, fun p hp => ⟨(h.2.1 p hp).1, by rw [e6 p hp]; exact (h.2.1 p hp).2⟩, fun p hp q => h.2.2.1 p hp (rr e (fun _ hx => hx) p q), fun done p cs hsp c hi hcc => h.2.2.2 done p cs hsp c (rr done (fun x hx => by rw [hsp]; exact List.mem_append_left _ hx) c hi) ⟨hcc.1, ?_⟩⟩
  rw [← e6 p (by rw [hsp]; exact List.mem_append_right _ List.mem_cons_self)]
  exact hcc.2
theorem ROW_kp {B M : Mem} (h : kp B M) (hR : ROW B) : ROW M := by
  refine ⟨fun i => by rw [h 8 i (by decide) (by omega)]; exact hR.1 i, fun i => by rw [h 9 i (by decide) (by omega)]; exact hR.2.1 i, fun i j h1 h2 h3 h4 => ?_, fun i => by rw [h 7 i (by decide) (by omega)]; exact hR.2.2.2 i⟩
  rw [h 9 i (by decide) (by omega)] at h4
  rw [h 10 _ (by decide) (by omega)]
  exact hR.2.2.1 i j h1 h2 h3 h4
