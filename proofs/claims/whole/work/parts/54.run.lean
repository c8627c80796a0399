-- ===== the machine of levels works out what the document asks
def run (B : Mem) : Nat → SA → List RF → Option (Int ⊕ SA)
  | _, s, [] => some (.inr s)
  | 0, _, _ :: _ => none
  | k + 1, s, f :: fs => match stp B s f fs with
    | .inl x => some (.inl x)
    | .inr q => run B k q.1 q.2
def Runs (B : Mem) (s : SA) (fs : List RF) (R : Int ⊕ SA) : Prop := ∃ k : Nat, run B k s fs = some R
def RunsB (B : Mem) (x : Int ⊕ (SA × List RF)) (R : Int ⊕ SA) : Prop := match x with
  | .inl e => R = .inl e
  | .inr q => Runs B q.1 q.2 R
theorem Runs_step {B : Mem} {s : SA} {f : RF} {fs : List RF} {R : Int ⊕ SA} (h : RunsB B (stp B s f fs) R) : Runs B s (f :: fs) R := by
  unfold RunsB at h
  cases hs : stp B s f fs with
  | inl x => rw [hs] at h; exact ⟨1, by show (match stp B s f fs with | Sum.inl x => some (Sum.inl x) | Sum.inr q => run B 0 q.1 q.2) = some R; rw [hs, h]⟩
  | inr q =>
    rw [hs] at h
    obtain ⟨k, hk⟩ := h
    exact ⟨k + 1, by show (match stp B s f fs with | Sum.inl x => some (Sum.inl x) | Sum.inr q => run B k q.1 q.2) = some R; rw [hs]; exact hk⟩
/-- what is to be shown of the rest of the work, for an OBJECT that came out as x -/
def CONT (B : Mem) (x : Int ⊕ (Int × SA)) (F : Int → List RF) (R : Int ⊕ SA) : Prop := match x with
  | .inl e => R = .inl e
  | .inr q => Runs B q.2 (F q.1) R
def SDEP (E B : Mem) (t : Int) (m L : Nat) (sets : List Int) : Prop := SETP B ((m : Int) + 1) sets ∧ sets ≠ [] ∧ ∀ p ∈ sets, ∃ q : Nat, p = 20 + (q : Int) ∧ q ≤ m ∧ opQ E t q ∧ L + 1 ≤ cntN (tS E t q)
theorem CTX_7 {E B : Mem} {t : Int} {m : Nat} (hX : CTX E B t m) {c : Int} (hc : 20 < c ∧ c < 20 + ((m : Int) + 1)) : (B c 1 = 0 → B c 7 = 0) ∧ (B c 1 = 1 → B c 7 = 1 ∨ B c 7 = 2) := by
  obtain ⟨k, rfl⟩ : ∃ k : Nat, c = 20 + ((k : Int) + 1) := ⟨(c - 21).toNat, by omega⟩
  have hst := hX.2.2.1.2.2.1 k (by omega)
  have hr := CTX_r hX (j := k) (by omega)
  rw [hst.1]
  refine ⟨fun o => ?_, fun o => ?_⟩
  · rw [(hst.2.2.2.2.2.2 (Or.inl o)).1]; exact hr.1 o
  · rw [(hst.2.2.2.2.2.2 (Or.inr o)).1]; exact hr.2.1 o
theorem opQ_1 {E B : Mem} {t : Int} {m : Nat} (hX : CTX E B t m) {c : Int} (hc : 20 < c ∧ c < 20 + ((m : Int) + 1)) (h1 : B c 1 = 1) : ∃ k : Nat, c = 20 + ((k + 1 : Nat) : Int) ∧ k + 1 ≤ m ∧ opnP (E 13 (tI E t k)) := by
  obtain ⟨k, rfl⟩ : ∃ k : Nat, c = 20 + ((k : Int) + 1) := ⟨(c - 21).toNat, by omega⟩
  have hst := hX.2.2.1.2.2.1 k (by omega)
  exact ⟨k, by omega, by omega, Or.inl (by rw [← hst.1]; exact h1)⟩
/-- what is collected lies deeper -/
theorem cO_dep {E B : Mem} {t : Int} {m L : Nat} (hX : CTX E B t m) {ty : Int} {sets : List Int} (hs : SDEP E B t m L sets) {es : List (List Int)} (h : cO B ty sets [] = some es) : ∀ c ∈ es.flatten, isEP B c ∧ (20 < c ∧ c < 20 + ((m : Int) + 1)) ∧ (B c 1 = 1 → L + 2 ≤ cntN (tS E t (c - 20).toNat)) := by
  intro c hc
  obtain ⟨h1, h2, h3⟩ := cO_full (CTX_P hX) hs.1 h
  obtain ⟨g1, g2⟩ := h2 c hc
  have hr := inR_rg (CTX_P hX) hs.1.1 g2
  refine ⟨g1, hr, fun o => ?_⟩
  obtain ⟨p, p1, p2, p3⟩ := g2
  obtain ⟨q, rfl, q2, q3, q4⟩ := hs.2.2 p p1
  obtain ⟨x, R, c0, hcl⟩ := CTX_c hX q2 q3
  obtain ⟨k, rfl, k2, k3⟩ := opQ_1 hX hr o
  rw [CTX_6 hX q2, hcl.2.2.2.2.2.2.2] at p3
  have := dep_in hcl (k := k) (by omega) (by omega) k3
  rw [show (20 + ((k + 1 : Nat) : Int) - 20).toNat = k + 1 by omega]
  omega
theorem SDEP_c {E B : Mem} {t : Int} {m L : Nat} (hX : CTX E B t m) {ty : Int} {sets : List Int} (hs : SDEP E B t m L sets) {es : List (List Int)} (h : cO B ty sets [] = some es) {e : List Int} (he : e ∈ es) (h1 : B (hdE e) 1 = 1) : SDEP E B t m (L + 1) e := by
  have hf := cO_full (CTX_P hX) hs.1 h
  have hd := cO_dep hX hs h
  refine ⟨cO_set (CTX_P hX) hs.1 h he, hf.1.1 e he, fun p hp => ?_⟩
  obtain ⟨g1, g2, g3⟩ := hd p (List.mem_flatten.mpr ⟨e, he, hp⟩)
  have hp1 : B p 1 = 1 := ((hf.1.2.2.2 e he p hp).1.1).trans h1
  have g4 := g3 hp1
  obtain ⟨k, rfl, k2, k3⟩ := opQ_1 hX g2 hp1
  rw [show (20 + ((k + 1 : Nat) : Int) - 20).toNat = k + 1 by omega] at g4
  exact ⟨k + 1, rfl, k2, Or.inr ⟨k, rfl, Or.inl k3⟩, g4⟩
def OBJR (E B : Mem) (t : Int) (m : Nat) (d : Nat) : Prop := ∀ (s : SA) (r : Int) (sets : List Int) (fs : List RF) (R : Int ⊕ SA), d + fs.length = 13 → SDEP E B t m fs.length sets → CONT B (objE B d sets r (preF B fs) s) (fun v => bkS B (if v = 1 then 0 else 1) fs) R → RunsB B (bgn B s r sets fs) R
theorem sayE_i {c : Int} {s : SA} {x : Int} (h : sayE c s = .inl x) : 120 ≤ s.2.1 ∧ x = -5 := by
  unfold sayE at h
  split at h
  · rename_i q; cases h; exact ⟨q, rfl⟩
  · cases h
theorem pln_run {B : Mem} {c : Int} {s : SA} {f : RF} {fs : List RF} {R : Int ⊕ SA} {v : Int} (h : CONT B (match sayE c s with | .inl x => .inl x | .inr s1 => .inr (v, s1)) (fun _ => nxtF f :: fs) R) : RunsB B (plnS c s f fs) R := by
  unfold plnS
  cases hs : sayE c s with
  | inl x => rw [hs] at h; exact h
  | inr s1 => rw [hs] at h; exact h
theorem non_run {B : Mem} {s : SA} {r : Int} {es : List (List Int)} {k : Nat} {im st bd : Int} {fs : List RF} {R : Int ⊕ SA} (h : CONT B (nonE B (hdE (es.getD k [])) (preF B fs ++ [B (hdE (es.getD k [])) 2]) s) (fun v => (r, es, k + 1, im, st, if v = 1 then bd else 1) :: fs) R) : RunsB B (nonS B s (r, es, k, im, st, bd) fs) R := by
  unfold nonS
  unfold nonE at h
  by_cases h8 : B (hdE (es.getD k [])) 8 = 0
  · rw [if_pos h8]
    unfold plnS
    cases hs : sayE 1 s with
    | inl x => rw [hs] at h; exact h
    | inr s1 =>
      rw [hs] at h
      dsimp only at h
      rw [if_pos h8] at h
      exact h
  · rw [if_neg h8]
    unfold plnS
    cases hs : sayE 1 s with
    | inl x =>
      rw [hs] at h
      have h2 := sayE_i hs
      have e : sayE 1 (s.1, s.2.1, s.2.2 ++ [preF B fs ++ [B (hdF (r, es, k, im, st, bd)) 2]]) = .inl x := by
        unfold sayE
        rw [if_pos h2.1, h2.2]
      rw [e]
      exact h
    | inr s1 =>
      rw [hs] at h
      dsimp only at h
      rw [if_neg h8] at h
      have h2 : ¬ 120 ≤ s.2.1 ∧ s1 = (s.1 ++ [1], s.2.1 + 1, s.2.2) := by
        unfold sayE at hs
        split at hs
        · cases hs
        · rename_i q; cases hs; exact ⟨q, rfl⟩
      have e : sayE 1 (s.1, s.2.1, s.2.2 ++ [preF B fs ++ [B (hdF (r, es, k, im, st, bd)) 2]]) = .inr (s.1 ++ [1], s.2.1 + 1, s.2.2 ++ [preF B fs ++ [B (hdF (r, es, k, im, st, bd)) 2]]) := by
        unfold sayE
        rw [if_neg h2.1]
      rw [e]
      rw [h2.2] at h
      exact h
theorem bkS_1 {B : Mem} {v r : Int} {es : List (List Int)} {k : Nat} {st bd : Int} {fs : List RF} : bkS B (if v = 1 then 0 else 1) ((r, es, k, -1, st, bd) :: fs) = (r, es, k + 1, -1, st, if (if v = 1 ∨ B (hdE (es.getD k [])) 8 = 0 then (1 : Int) else 0) = 1 then bd else 1) :: fs := by
  show bkF B _ _ :: fs = _
  unfold bkF bkG
  rw [if_neg (by show ¬ (0 : Int) ≤ -1; decide)]
  by_cases hv : v = 1
  · rw [if_pos hv, if_neg (fun w => w.1 rfl), if_pos (Or.inl hv), if_pos rfl]; rfl
  · rw [if_neg hv]
    by_cases h8 : B (hdE (es.getD k [])) 8 = 0
    · rw [if_neg (fun w => w.2 h8), if_pos (Or.inr h8), if_pos rfl]; rfl
    · rw [if_pos ⟨by decide, h8⟩, if_neg (by omega)]; rfl
theorem bkS_m {B : Mem} {v r : Int} {es : List (List Int)} {k : Nat} {i st bd ok : Int} {fs : List RF} (hi : 0 ≤ i) : bkS B (if v = 1 then 0 else 1) ((r, es, k, i, st, if ok = 1 ∨ B (hdE (es.getD k [])) 8 = 0 then bd else 1) :: fs) = (r, es, k, i + 1, st, if (if v = 1 ∧ ok = 1 then (1 : Int) else 0) = 1 ∨ B (hdE (es.getD k [])) 8 = 0 then bd else 1) :: fs := by
  show bkF B _ _ :: fs = _
  unfold bkF bkG
  rw [if_pos (show 0 ≤ i from hi)]
  by_cases h8 : B (hdE (es.getD k [])) 8 = 0
  · rw [if_neg (fun w => w.2 h8), if_pos (Or.inr h8), if_pos (Or.inr h8)]; rfl
  · by_cases hv : v = 1
    · rw [if_pos hv, if_neg (fun w => w.1 rfl)]
      by_cases ho : ok = 1
      · rw [if_pos (Or.inl ho), if_pos (Or.inl (by rw [if_pos ⟨hv, ho⟩]))]; rfl
      · rw [if_neg (fun w => w.elim ho h8), if_neg (fun w => w.elim (fun z => by rw [if_neg (fun y => ho y.2)] at z; omega) h8)]; rfl
    · have e2 : (if (if v = 1 ∧ ok = 1 then (1 : Int) else 0) = 1 ∨ B (hdE (es.getD k [])) 8 = 0 then bd else 1) = 1 := by
        rw [if_neg (c := v = 1 ∧ ok = 1) (fun y => hv y.1), if_neg]
        rintro (w | w)
        · omega
        · exact h8 w
      rw [if_neg hv, if_pos ⟨by decide, h8⟩, e2]; rfl
/-- a MANY -/
theorem man_run {E B : Mem} {t : Int} {m d : Nat} (hO : OBJR E B t m d) {r : Int} {es : List (List Int)} {k : Nat} {st bd : Int} {fs : List RF} {R : Int ⊕ SA} (hk : k < es.length) (h7 : B (hdE (es.getD k [])) 7 = 2) (hd : d + (fs.length + 1) = 13) (hS : SDEP E B t m (fs.length + 1) (es.getD k [])) : ∀ (n : Nat) (i ok : Int) (s : SA), 0 ≤ i → i + (n : Int) = B 9 (celE B r (hdE (es.getD k []))) → CONT B (manT B (objE B d (es.getD k [])) r (hdE (es.getD k [])) (preF B fs ++ [B (hdE (es.getD k [])) 2]) n i ok s) (fun v => (r, es, k + 1, -1, st, if v = 1 then bd else 1) :: fs) R → Runs B s ((r, es, k, i, st, if ok = 1 ∨ B (hdE (es.getD k [])) 8 = 0 then bd else 1) :: fs) R := by
  intro n
  induction n with
  | zero =>
    intro i ok s hi hin h
    refine Runs_step ?_
    unfold stp
    rw [if_neg (show ¬ k = es.length by omega), if_pos (show 0 ≤ i from hi)]
    unfold manS
    rw [if_neg (show ¬ i < B 9 (celE B r (hdE (es.getD k []))) by omega)]
    unfold manT manE at h
    dsimp only at h
    cases hs : sayE 5 s with
    | inl x => rw [hs] at h; exact h
    | inr s1 =>
      rw [hs] at h
      have h : Runs B s1 ((r, es, k + 1, -1, st, if (if ok = 1 ∨ B (hdE (es.getD k [])) 8 = 0 then (1 : Int) else 0) = 1 then bd else 1) :: fs) R := h
      by_cases q : ok = 1 ∨ B (hdE (es.getD k [])) 8 = 0
      · rw [if_pos q, if_pos rfl] at h
        rw [if_pos q]
        exact h
      · rw [if_neg q, if_neg (by decide)] at h
        rw [if_neg q]
        exact h
  | succ n ih =>
    intro i ok s hi hin h
    refine Runs_step ?_
    unfold stp
    rw [if_neg (show ¬ k = es.length by omega), if_pos (show 0 ≤ i from hi)]
    unfold manS
    rw [if_pos (show i < B 9 (celE B r (hdE (es.getD k []))) by omega)]
    refine hO s _ (es.getD k []) _ R (by simp; omega) (by simpa using hS) ?_
    have hpre : preF B ((r, es, k, i, st, if ok = 1 ∨ B (hdE (es.getD k [])) 8 = 0 then bd else 1) :: fs) = preF B fs ++ [B (hdE (es.getD k [])) 2] ++ [10 + i] := by
      show preF B fs ++ [B (hdE (es.getD k [])) 2] ++ (if B (hdE (es.getD k [])) 7 = 2 then [10 + i] else []) = _
      rw [if_pos h7]
    rw [hpre]
    unfold manT manE at h
    show CONT B (objE B d (es.getD k []) (B 10 (celE B r (hdE (es.getD k [])) * 4 + i)) (preF B fs ++ [B (hdE (es.getD k [])) 2] ++ [10 + i]) s) _ R
    cases hob : objE B d (es.getD k []) (B 10 (celE B r (hdE (es.getD k [])) * 4 + i)) (preF B fs ++ [B (hdE (es.getD k [])) 2] ++ [10 + i]) s with
    | inl x => rw [hob] at h; exact h
    | inr ws =>
      obtain ⟨v, s1⟩ := ws
      rw [hob] at h
      show Runs B s1 (bkS B (if v = 1 then 0 else 1) _) R
      rw [bkS_m hi]
      exact ih (i + 1) (if v = 1 ∧ ok = 1 then 1 else 0) s1 (by omega) (by omega) h
theorem val_run {E B : Mem} {t : Int} {m d : Nat} (hX : EXB E B t m) (hO : OBJR E B t m d) {r : Int} {es : List (List Int)} {k : Nat} {st bd : Int} {fs : List RF} {R : Int ⊕ SA} (hk : k < es.length) (hc : 20 < hdE (es.getD k []) ∧ hdE (es.getD k []) < 20 + ((m : Int) + 1)) (hE : isEP B (hdE (es.getD k []))) (hd : d + (fs.length + 1) = 13) (hS : B (hdE (es.getD k [])) 1 = 1 → SDEP E B t m (fs.length + 1) (es.getD k [])) {s : SA} (h : CONT B (valE B (objE B d (es.getD k [])) r (hdE (es.getD k [])) (preF B fs ++ [B (hdE (es.getD k [])) 2]) s) (fun v => (r, es, k + 1, -1, st, if v = 1 then bd else 1) :: fs) R) : RunsB B (valS B s (r, es, k, -1, st, bd) fs) R := by
  have h7 := CTX_7 hX.1 hc
  unfold valS
  unfold valE at h
  by_cases o2 : B (hdE (es.getD k [])) 1 = 2
  · rw [if_pos o2]
    rw [if_pos o2] at h
    unfold plnS
    show RunsB B (match sayE (2000 + B 7 (r - 1)) s with | .inl x => .inl x | .inr s1 => .inr (s1, nxtF (r, es, k, -1, st, bd) :: fs)) R
    cases hs : sayE (2000 + B 7 (r - 1)) s with
    | inl x => rw [hs] at h; exact h
    | inr s1 =>
      rw [hs] at h
      have h : Runs B s1 ((r, es, k + 1, -1, st, if (1 : Int) = 1 then bd else 1) :: fs) R := h
      rw [if_pos rfl] at h
      exact h
  · rw [if_neg o2]
    rw [if_neg o2] at h
    have o1 : (B (hdE (es.getD k [])) 1 = 0 ∧ B (hdE (es.getD k [])) 7 = 0) ∨ (B (hdE (es.getD k [])) 1 = 1 ∧ (B (hdE (es.getD k [])) 7 = 1 ∨ B (hdE (es.getD k [])) 7 = 2)) := by
      rcases hE with q | q | q
      · exact Or.inl ⟨q, h7.1 q⟩
      · exact Or.inr ⟨q, h7.2 q⟩
      · exact absurd q o2
    by_cases k2 : B (hdE (es.getD k [])) 7 = 2
    · rw [if_pos (show B (hdF (r, es, k, -1, st, bd)) 7 = 2 from k2)]
      rw [if_neg (by omega), if_pos k2] at h
      cases hs : sayE 4 s with
      | inl x => rw [hs] at h; exact h
      | inr s1 =>
        rw [hs] at h
        show Runs B s1 ((r, es, k, 0, st, bd) :: fs) R
        have h9 := hX.2.1.2.1 (celE B r (hdE (es.getD k [])))
        have := man_run hO (r := r) (es := es) (k := k) (st := st) (bd := bd) (fs := fs) (R := R) hk k2 hd (hS (by omega)) (B 9 (celE B r (hdE (es.getD k [])))).toNat 0 1 s1 (by decide) (by omega) h
        rw [if_pos (Or.inl rfl)] at this
        exact this
    · rw [if_neg (show ¬ B (hdF (r, es, k, -1, st, bd)) 7 = 2 from k2)]
      by_cases k1 : B (hdE (es.getD k [])) 7 = 1
      · rw [if_pos (show B (hdF (r, es, k, -1, st, bd)) 7 = 1 from k1)]
        rw [if_pos k1] at h
        by_cases z : B 9 (celE B r (hdE (es.getD k []))) = 0
        · rw [if_pos (show B 9 (celE B r (hdF (r, es, k, -1, st, bd))) = 0 from z)]
          rw [if_pos z] at h
          exact non_run h
        · rw [if_neg (show ¬ B 9 (celE B r (hdF (r, es, k, -1, st, bd))) = 0 from z)]
          rw [if_neg z] at h
          refine hO s _ (es.getD k []) _ R (by simp; omega) (by simpa using hS (by omega)) ?_
          have hpre : preF B ((r, es, k, -1, st, bd) :: fs) = preF B fs ++ [B (hdE (es.getD k [])) 2] := by
            show preF B fs ++ [B (hdE (es.getD k [])) 2] ++ (if B (hdE (es.getD k [])) 7 = 2 then [10 + -1] else []) = _
            rw [if_neg k2, List.append_nil]
          rw [hpre]
          show CONT B (objE B d (es.getD k []) (B 10 (celE B r (hdE (es.getD k [])) * 4 + 0)) (preF B fs ++ [B (hdE (es.getD k [])) 2]) s) _ R
          cases hob : objE B d (es.getD k []) (B 10 (celE B r (hdE (es.getD k [])) * 4 + 0)) (preF B fs ++ [B (hdE (es.getD k [])) 2]) s with
          | inl x => rw [hob] at h; exact h
          | inr ws =>
            obtain ⟨v, s1⟩ := ws
            rw [hob] at h
            show Runs B s1 (bkS B (if v = 1 then 0 else 1) _) R
            rw [bkS_1]
            exact h
      · rw [if_neg (show ¬ B (hdF (r, es, k, -1, st, bd)) 7 = 1 from k1)]
        rw [if_neg k1, if_neg k2] at h
        by_cases z : B 8 (celE B r (hdE (es.getD k []))) = -1
        · rw [if_pos (show B 8 (celE B r (hdF (r, es, k, -1, st, bd))) = -1 from z)]
          rw [if_pos z] at h
          exact non_run h
        · rw [if_neg (show ¬ B 8 (celE B r (hdF (r, es, k, -1, st, bd))) = -1 from z)]
          rw [if_neg z] at h
          unfold plnS
          show RunsB B (match sayE (1000 + B 8 (celE B r (hdE (es.getD k [])))) s with | .inl x => .inl x | .inr s1 => .inr (s1, nxtF (r, es, k, -1, st, bd) :: fs)) R
          cases hs : sayE (1000 + B 8 (celE B r (hdE (es.getD k [])))) s with
          | inl x => rw [hs] at h; exact h
          | inr s1 =>
            rw [hs] at h
            have h : Runs B s1 ((r, es, k + 1, -1, st, if (1 : Int) = 1 then bd else 1) :: fs) R := h
            rw [if_pos rfl] at h
            exact h
theorem ent_run {E B : Mem} {t : Int} {m d : Nat} (hX : EXB E B t m) (hO : OBJR E B t m d) {r : Int} {es : List (List Int)} {st : Int} {fs : List RF} {R : Int ⊕ SA} (hne : ∀ e ∈ es, e ≠ []) (hcs : ∀ c ∈ es.flatten, isEP B c ∧ 20 < c ∧ c < 20 + ((m : Int) + 1)) (hd : d + (fs.length + 1) = 13) (hS : ∀ e ∈ es, B (hdE e) 1 = 1 → SDEP E B t m (fs.length + 1) e) : ∀ (es2 es1 : List (List Int)) (bd : Int) (s : SA), es = es1 ++ es2 → (bd = 0 ∨ bd = 1) → CONT B (entE B (objE B d) r (preF B fs) es2 (1 - bd) s) (fun ok => (r, es, es.length, -1, st, 1 - ok) :: fs) R → Runs B s ((r, es, es1.length, -1, st, bd) :: fs) R := by
  intro es2
  induction es2 with
  | nil =>
    intro es1 bd s hsp hb h
    rw [List.append_nil] at hsp
    subst hsp
    have h : Runs B s ((r, es, es.length, -1, st, 1 - (1 - bd)) :: fs) R := h
    rw [show 1 - (1 - bd) = bd by omega] at h
    exact h
  | cons e es2 ih =>
    intro es1 bd s hsp hb h
    have hk : es1.length < es.length := by rw [hsp]; simp
    have hgd : es.getD es1.length [] = e := by rw [hsp]; exact getD_e
    have hem : e ∈ es := by rw [hsp]; exact List.mem_append_right _ List.mem_cons_self
    have hcm := hcs (hdE e) (List.mem_flatten.mpr ⟨e, hem, hdE_mem (hne e hem)⟩)
    refine Runs_step ?_
    unfold stp
    rw [if_neg (show ¬ es1.length = es.length by omega), if_neg (show ¬ (0 : Int) ≤ -1 by decide)]
    unfold entE at h
    show RunsB B (match sayE (10 + B (hdE (es.getD es1.length [])) 2) s with | .inl x => .inl x | .inr s1 => valS B s1 (r, es, es1.length, -1, st, bd) fs) R
    rw [hgd]
    cases hs : sayE (10 + B (hdE e) 2) s with
    | inl x => rw [hs] at h; exact h
    | inr s1 =>
      rw [hs] at h
      refine val_run hX hO hk (by rw [hgd]; exact hcm.2) (by rw [hgd]; exact hcm.1) hd (fun o => by rw [hgd] at o ⊢; exact hS e hem o) ?_
      rw [hgd]
      dsimp only at h
      cases hv : valE B (objE B d e) r (hdE e) (preF B fs ++ [B (hdE e) 2]) s1 with
      | inl x => rw [hv] at h; exact h
      | inr ws =>
        obtain ⟨v, s2⟩ := ws
        rw [hv] at h
        show Runs B s2 ((r, es, es1.length + 1, -1, st, if v = 1 then bd else 1) :: fs) R
        have := ih (es1 ++ [e]) (if v = 1 then bd else 1) s2 (by rw [hsp]; simp) (by split; exact hb; exact Or.inr rfl) (by
          have e1 : (1 - (if v = 1 then bd else 1) : Int) = if v = 1 ∧ 1 - bd = 1 then 1 else 0 := by
            by_cases q : v = 1
            · rw [if_pos q]
              rcases hb with w | w
              · rw [if_pos ⟨q, by omega⟩]; omega
              · rw [if_neg (by omega)]; omega
            · rw [if_neg q, if_neg (fun w => q w.1)]; rfl
          rw [e1]
          exact h)
        rw [List.length_append] at this
        exact this
theorem entE_01 {B : Mem} {obj : List Int → Int → List Int → SA → Int ⊕ (Int × SA)} {r : Int} {path : List Int} : ∀ (es : List (List Int)) (ok : Int) (s s' : SA) (v : Int), (ok = 0 ∨ ok = 1) → entE B obj r path es ok s = .inr (v, s') → v = 0 ∨ v = 1
  | [], ok, s, s', v, ho, h => by cases h; exact ho
  | e :: es, ok, s, s', v, ho, h => by
    unfold entE at h
    cases hs : sayE (10 + B (hdE e) 2) s with
    | inl x => rw [hs] at h; cases h
    | inr s1 =>
      rw [hs] at h
      dsimp only at h
      cases hv : valE B (obj e) r (hdE e) (path ++ [B (hdE e) 2]) s1 with
      | inl x => rw [hv] at h; cases h
      | inr ws =>
        obtain ⟨w, s2⟩ := ws
        rw [hv] at h
        exact entE_01 es _ s2 s' v (by split <;> simp) h
theorem OBJR_all {E B : Mem} {t : Int} {m : Nat} (hX : EXB E B t m) : ∀ d : Nat, OBJR E B t m d
  | 0 => fun s r sets fs R hd hS h => by
    exfalso
    obtain ⟨p, hp⟩ := List.exists_mem_of_ne_nil _ hS.2.1
    obtain ⟨q, q1, q2, q3, q4⟩ := hS.2.2 p hp
    have := dep_le hX.1.1 hX.1.2.2.2.2.2.2.1 hX.1.2.2.2.2.2.2.2 hX.1.2.2.2.1 hX.1.2.2.2.2.2.1 q2
    omega
  | d + 1 => fun s r sets fs R hd hS h => by
    unfold bgn
    unfold objE at h
    cases hc : cO B (B 7 (r - 1)) sets [] with
    | none => rw [hc] at h; exact h
    | some es =>
      rw [hc] at h
      dsimp only at h ⊢
      cases h2 : sayE 2 s with
      | inl x => rw [h2] at h; exact h
      | inr s1 =>
        rw [h2] at h
        dsimp only at h
        have hf := cO_full (CTX_P hX.1) hS.1 hc
        have hde := cO_dep hX.1 hS hc
        show Runs B s1 ((r, es, 0, -1, (s.1.length : Int), 0) :: fs) R
        refine ent_run hX (OBJR_all hX d) hf.1.1 (fun c hc => ⟨(hde c hc).1, (hde c hc).2.1⟩) (by omega) (fun e he o => SDEP_c hX.1 hS hc he o) es [] 0 s1 rfl (Or.inl rfl) ?_
        rw [show (1 : Int) - 0 = 1 by decide]
        cases he : entE B (objE B d) r (preF B fs) es 1 s1 with
        | inl x => rw [he] at h; exact h
        | inr ws =>
          obtain ⟨ok, s2⟩ := ws
          rw [he] at h
          dsimp only at h
          show Runs B s2 ((r, es, es.length, -1, (s.1.length : Int), 1 - ok) :: fs) R
          have h01 := entE_01 es 1 s1 s2 ok (Or.inr rfl) he
          have hx := EXT_t (sayE_ext h2).1 (entE_ext (objE_ext d) es _ _ _ _ he)
          refine Runs_step ?_
          unfold stp
          rw [if_pos (show es.length = es.length from rfl)]
          unfold endS
          cases h3 : sayE 3 s2 with
          | inl x => rw [h3] at h; exact h
          | inr s3 =>
            rw [h3] at h
            dsimp only at h
            have hx3 := EXT_t hx (sayE_ext h3).1
            by_cases ho : ok = 1
            · rw [if_pos ho] at h
              show Runs B (if 1 - ok = 0 then s3 else _) (bkS B (1 - ok) fs) R
              rw [if_pos (by omega), show 1 - ok = 0 by omega]
              have h : Runs B s3 (bkS B (if (1 : Int) = 1 then 0 else 1) fs) R := h
              rw [if_pos rfl] at h
              exact h
            · rw [if_neg ho] at h
              show Runs B (if 1 - ok = 0 then s3 else (s3.1.take ((s.1.length : Int)).toNat ++ [1], s3.2.1, s3.2.2)) (bkS B (1 - ok) fs) R
              rw [if_neg (by omega), show 1 - ok = 1 by omega]
              have h : Runs B (s.1 ++ [1], s3.2.1, s3.2.2) (bkS B (if (0 : Int) = 1 then 0 else 1) fs) R := h
              rw [if_neg (by decide)] at h
              obtain ⟨⟨tl, ht⟩, -⟩ := hx3
              rw [ht, Int.toNat_natCast, List.take_left' rfl]
              exact h
