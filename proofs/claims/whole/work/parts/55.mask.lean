-- ===== what holds of the levels holds on; ask of the reference
theorem STK_mono : ∀ {fs : List RF} {u u' : Int}, u ≤ u' → STK u fs → STK u' fs
  | [], _, _, _, _ => trivial
  | f :: fs, u, u', h, ⟨h1, h2, h3⟩ => ⟨h1, by omega, h3⟩
def INV (E B : Mem) (t : Int) (m : Nat) (s : SA) (fs : List RF) : Prop := VAL E B t m fs ∧ STK (s.1.length : Int) fs ∧ 2 * (s.2.2.length : Int) ≤ s.2.1 ∧ fs.length ≤ 13
theorem EXT_l {s s' : SA} (h : EXT s s') : (s.1.length : Int) ≤ (s'.1.length : Int) := by
  obtain ⟨⟨tl, ht⟩, -⟩ := h
  rw [ht, List.length_append]; omega
theorem FV_dep {E B : Mem} {t : Int} {m L : Nat} (hX : CTX E B t m) {f : RF} (hV : FV E B t m L f) (hk : f.2.2.1 < f.2.1.length) (h1 : B (hdF f) 1 = 1) : SDEP E B t m (L + 1) (f.2.1.getD f.2.2.1 []) ∧ L + 2 ≤ 13 := by
  obtain ⟨g1, g2, g3, g4, g5⟩ := FV_h hX hV hk
  obtain ⟨hr, ⟨e1, e2, e3⟩, -⟩ := hV
  have hm : f.2.1.getD f.2.2.1 [] ∈ f.2.1 := by
    rw [List.getD_eq_getElem?_getD, List.getElem?_eq_getElem hk]
    exact List.getElem_mem hk
  have fl : ∀ c ∈ f.2.1.getD f.2.2.1 [], c ∈ f.2.1.flatten := fun c hc => List.mem_flatten.mpr ⟨_, hm, hc⟩
  refine ⟨⟨⟨fun c hc => by have := (e3 c (fl c hc)).2.1; omega, fun p hp c hc => e2 p (fl p hp) c (fl c hc), fl_nodup e1.2.1 hm⟩, e1.1 _ hm, fun p hp => ?_⟩, ?_⟩
  · obtain ⟨p1, p2, p3⟩ := e3 p (fl p hp)
    have hp1 : B p 1 = 1 := ((e1.2.2.2 _ hm p hp).1.1).trans h1
    have p4 := p3 hp1
    obtain ⟨k, rfl, k2, k3⟩ := opQ_1 hX p2 hp1
    rw [show (20 + ((k + 1 : Nat) : Int) - 20).toNat = k + 1 by omega] at p4
    exact ⟨k + 1, rfl, k2, Or.inr ⟨k, rfl, Or.inl k3⟩, by omega⟩
  · have hd := (e3 _ g1).2.2 h1
    have := dep_le hX.1 hX.2.2.2.2.2.2.1 hX.2.2.2.2.2.2.2 hX.2.2.2.1 hX.2.2.2.2.2.1 (j := (hdF f - 20).toNat) (by have := (e3 _ g1).2.1; omega)
    omega
theorem INV_new {E B : Mem} {t : Int} {m : Nat} (hX : CTX E B t m) {s s' : SA} {r : Int} {sets : List Int} {fs fs' : List RF} (hS : SDEP E B t m fs.length sets) (hr : 1 ≤ r ∧ r ≤ 12) (hP : ∀ g ∈ fs, PAR B g) (hV : VAL E B t m fs) (hSt : STK (s.1.length : Int) fs) (hp : 2 * (s.2.2.length : Int) ≤ s.2.1) (hl : fs.length ≤ 12) (h : bgn B s r sets fs = .inr (s', fs')) : INV E B t m s' fs' := by
  unfold bgn at h
  cases hc : cO B (B 7 (r - 1)) sets [] with
  | none => rw [hc] at h; cases h
  | some es =>
    rw [hc] at h
    dsimp only at h
    cases h2 : sayE 2 s with
    | inl x => rw [h2] at h; cases h
    | inr s1 =>
      rw [h2] at h
      cases h
      obtain ⟨g1, g2, g3, g4⟩ := sayE_ext h2
      have hf := cO_full (CTX_P hX) hS.1 hc
      have hde := cO_dep hX hS hc
      exact ⟨⟨⟨hr, ⟨hf.1, hf.2.2, hde⟩, Nat.zero_le _, Or.inl rfl, Or.inl rfl⟩, hP, hV⟩, ⟨by show (0 : Int) ≤ (s.1.length : Int); omega, EXT_l g1, hSt⟩, by rw [g3]; omega, by simp; omega⟩
theorem VAL_top {E B : Mem} {t : Int} {m : Nat} {f f' : RF} {fs : List RF} (h : VAL E B t m (f :: fs)) (h1 : f'.1 = f.1) (h2 : f'.2.1 = f.2.1) (h3 : f'.2.2.1 ≤ f.2.1.length) (h4 : f'.2.2.2.2.2 = 0 ∨ f'.2.2.2.2.2 = 1) (h5 : f'.2.2.2.1 = -1 ∨ (0 ≤ f'.2.2.2.1 ∧ f'.2.2.1 < f'.2.1.length ∧ B (hdF f') 1 = 1 ∧ B (hdF f') 7 = 2 ∧ f'.2.2.2.1 ≤ B 9 (celE B f'.1 (hdF f')))) : VAL E B t m (f' :: fs) := ⟨⟨by rw [h1]; exact h.1.1, by rw [h2]; exact h.1.2.1, by rw [h2]; exact h3, h4, h5⟩, h.2⟩
theorem INV_pln {E B : Mem} {t : Int} {m : Nat} {c : Int} {s s' : SA} {f : RF} {fs fs' : List RF} (hV : VAL E B t m (f :: fs)) (hk : f.2.2.1 < f.2.1.length) (hi : f.2.2.2.1 = -1) (hSt : STK (s.1.length : Int) (f :: fs)) (hp : 2 * (s.2.2.length : Int) ≤ s.2.1 + 1) (hl : fs.length ≤ 12) (h : plnS c s f fs = .inr (s', fs')) : INV E B t m s' fs' := by
  unfold plnS at h
  cases h2 : sayE c s with
  | inl x => rw [h2] at h; cases h
  | inr s1 =>
    rw [h2] at h
    cases h
    obtain ⟨g1, g2, g3, g4⟩ := sayE_ext h2
    refine ⟨VAL_top hV rfl rfl hk hV.1.2.2.2.1 (Or.inl hi), ⟨hSt.1, by have := EXT_l g1; have := hSt.2.1; show f.2.2.2.2.1 ≤ _; omega, hSt.2.2⟩, by rw [g3, g2]; omega, by simp; omega⟩
theorem INV_val {E B : Mem} {t : Int} {m : Nat} (hX : EXB E B t m) {s s' : SA} {f : RF} {fs fs' : List RF} (hV : VAL E B t m (f :: fs)) (hk : f.2.2.1 < f.2.1.length) (hi : f.2.2.2.1 = -1) (hSt : STK (s.1.length : Int) (f :: fs)) (hp : 2 * (s.2.2.length : Int) + 1 ≤ s.2.1) (hl : fs.length ≤ 12) (h : valS B s f fs = .inr (s', fs')) : INV E B t m s' fs' := by
  have hh := FV_h hX.1 hV.1 hk
  have h7 := CTX_7 hX.1 (hV.1.2.1.2.2 _ hh.1).2.1
  have hnon : ∀ fs', nonS B s f fs = .inr (s', fs') → INV E B t m s' fs' := fun fs' h => by
    unfold nonS at h
    split at h
    · exact INV_pln hV hk hi hSt (by omega) hl h
    · exact INV_pln (s := (s.1, s.2.1, s.2.2 ++ [preF B fs ++ [B (hdF f) 2]])) (f := badF f 1) (VAL_top hV rfl rfl hV.1.2.2.1 (Or.inr rfl) (Or.inl hi)) hk hi hSt (by show 2 * ((s.2.2 ++ [_]).length : Int) ≤ s.2.1 + 1; simp; omega) hl h
  unfold valS at h
  split at h
  · exact INV_pln hV hk hi hSt (by omega) hl h
  · rename_i o2
    have o1 : (B (hdF f) 1 = 0 ∧ B (hdF f) 7 = 0) ∨ (B (hdF f) 1 = 1 ∧ (B (hdF f) 7 = 1 ∨ B (hdF f) 7 = 2)) := by
      rcases hh.2.1 with q | q | q
      · exact Or.inl ⟨q, h7.1 q⟩
      · exact Or.inr ⟨q, h7.2 q⟩
      · exact absurd q o2
    split at h
    · rename_i k2
      cases h2 : sayE 4 s with
      | inl x => rw [h2] at h; cases h
      | inr s1 =>
        rw [h2] at h
        cases h
        obtain ⟨g1, g2, g3, g4⟩ := sayE_ext h2
        have h9 := hX.2.1.2.1 (celE B f.1 (hdF f))
        refine ⟨VAL_top hV rfl rfl hV.1.2.2.1 hV.1.2.2.2.1 (Or.inr ⟨Int.le_refl 0, hk, show B (hdF f) 1 = 1 by omega, k2, h9.1⟩), ⟨hSt.1, by have := EXT_l g1; have := hSt.2.1; show f.2.2.2.2.1 ≤ _; omega, hSt.2.2⟩, by rw [g3, g2]; omega, by simp; omega⟩
    · split at h
      · rename_i k1
        split at h
        · exact hnon fs' h
        · rename_i z
          have h1 : B (hdF f) 1 = 1 := by omega
          have h9 := hX.2.1.2.1 (celE B f.1 (hdF f))
          obtain ⟨d1, d2⟩ := FV_dep hX.1 hV.1 hk h1
          have hcel : 0 ≤ celE B f.1 (hdF f) ∧ celE B f.1 (hdF f) < 48 := by have := hh.2.2.2.2 (by omega); have := hV.1.1; unfold celE; omega
          refine INV_new hX.1 (fs := f :: fs) (by simpa using d1) (hX.2.1.2.2.1 _ 0 hcel.1 hcel.2 (by decide) (by omega)) (fun g hg => ?_) hV hSt (by omega) (by simp; omega) h
          rcases List.mem_cons.mp hg with rfl | hg
          · exact ⟨hk, h1, Or.inr ⟨k1, hi⟩⟩
          · exact hV.2.1 g hg
      · split at h
        · exact hnon fs' h
        · exact INV_pln hV hk hi hSt (by omega) hl h
theorem INV_stp {E B : Mem} {t : Int} {m : Nat} (hX : EXB E B t m) {s s' : SA} {f : RF} {fs fs' : List RF} (hI : INV E B t m s (f :: fs)) (h : stp B s f fs = .inr (s', fs')) : INV E B t m s' fs' := by
  obtain ⟨hV, hSt, hp, hl⟩ := hI
  simp only [List.length_cons] at hl
  unfold stp at h
  split at h
  · unfold endS at h
    cases h2 : sayE 3 s with
    | inl x => rw [h2] at h; cases h
    | inr s1 =>
      rw [h2] at h
      cases h
      obtain ⟨g1, g2, g3, g4⟩ := sayE_ext h2
      have hle := EXT_l g1
      have hst := hSt.1
      have hst2 := hSt.2.1
      have hlen : f.2.2.2.2.1 ≤ (((if f.2.2.2.2.2 = 0 then s1 else (s1.1.take f.2.2.2.2.1.toNat ++ [1], s1.2.1, s1.2.2)).1.length : Nat) : Int) := by
        split
        · omega
        · show f.2.2.2.2.1 ≤ ((s1.1.take f.2.2.2.2.1.toNat ++ [1]).length : Int)
          rw [List.length_append, List.length_take]
          simp
          omega
      have hpl : 2 * (((if f.2.2.2.2.2 = 0 then s1 else (s1.1.take f.2.2.2.2.1.toNat ++ [1], s1.2.1, s1.2.2)).2.2.length : Nat) : Int) ≤ (if f.2.2.2.2.2 = 0 then s1 else (s1.1.take f.2.2.2.2.1.toNat ++ [1], s1.2.1, s1.2.2)).2.1 := by
        split
        · rw [g3, g2]; omega
        · show 2 * (s1.2.2.length : Int) ≤ s1.2.1
          rw [g3, g2]; omega
      cases fs with
      | nil => exact ⟨trivial, trivial, hpl, by simp [bkS]⟩
      | cons g gs =>
        have hpg := hV.2.1 g List.mem_cons_self
        have hVg := hV.2.2
        have hS2 := hSt.2.2
        simp only [List.length_cons] at hl
        have hb : (bkG B f.2.2.2.2.2 g).1 = g.1 ∧ (bkG B f.2.2.2.2.2 g).2.1 = g.2.1 ∧ (bkG B f.2.2.2.2.2 g).2.2.1 = g.2.2.1 ∧ (bkG B f.2.2.2.2.2 g).2.2.2.1 = g.2.2.2.1 ∧ (bkG B f.2.2.2.2.2 g).2.2.2.2.1 = g.2.2.2.2.1 ∧ ((bkG B f.2.2.2.2.2 g).2.2.2.2.2 = 0 ∨ (bkG B f.2.2.2.2.2 g).2.2.2.2.2 = 1) := by
          unfold bkG
          split
          · exact ⟨rfl, rfl, rfl, rfl, rfl, Or.inr rfl⟩
          · exact ⟨rfl, rfl, rfl, rfl, rfl, hVg.1.2.2.2.1⟩
        obtain ⟨b1, b2, b3, b4, b5, b6⟩ := hb
        refine ⟨?_, ?_, hpl, by show (bkF B f.2.2.2.2.2 g :: gs).length ≤ 13; simp; omega⟩
        · show VAL E B t m (bkF B f.2.2.2.2.2 g :: gs)
          unfold bkF
          split
          · rename_i hi
            have hi2 : B (hdF g) 7 = 2 ∧ 0 ≤ g.2.2.2.1 ∧ g.2.2.2.1 < B 9 (celE B g.1 (hdF g)) := by rcases hpg.2.2 with w | w; exact w; omega
            have hhd : hdF (imF (bkG B f.2.2.2.2.2 g) (g.2.2.2.1 + 1)) = hdF g := by
              show hdE ((bkG B f.2.2.2.2.2 g).2.1.getD (bkG B f.2.2.2.2.2 g).2.2.1 []) = _
              rw [b2, b3]
            refine VAL_top hVg b1 b2 (by show (bkG B f.2.2.2.2.2 g).2.2.1 ≤ _; rw [b3]; exact hVg.1.2.2.1) b6 (Or.inr ⟨by show 0 ≤ g.2.2.2.1 + 1; omega, by show (bkG B f.2.2.2.2.2 g).2.2.1 < (bkG B f.2.2.2.2.2 g).2.1.length; rw [b2, b3]; exact hpg.1, by rw [hhd]; exact hpg.2.1, by rw [hhd]; exact hi2.1, ?_⟩)
            rw [hhd]
            show g.2.2.2.1 + 1 ≤ B 9 (celE B (bkG B f.2.2.2.2.2 g).1 (hdF g))
            rw [b1]
            omega
          · rename_i hi
            refine VAL_top hVg b1 b2 (by show (bkG B f.2.2.2.2.2 g).2.2.1 + 1 ≤ _; rw [b3]; exact hpg.1) b6 (Or.inl ?_)
            show (bkG B f.2.2.2.2.2 g).2.2.2.1 = -1
            rw [b4]
            rcases hpg.2.2 with w | w
            · omega
            · exact w.2
        · show STK _ (bkF B f.2.2.2.2.2 g :: gs)
          have : (bkF B f.2.2.2.2.2 g).2.2.2.2.1 = g.2.2.2.2.1 := by
            unfold bkF
            split
            · exact b5
            · exact b5
          obtain ⟨q1, q2, q3⟩ := hS2
          exact ⟨by rw [this]; exact q1, by rw [this]; omega, by rw [this]; exact q3⟩
  · rename_i hk0
    have hkl := hV.1.2.2.1
    have hk : f.2.2.1 < f.2.1.length := by omega
    split at h
    · rename_i hi
      obtain ⟨hi0, -, h1, h7, hi9⟩ := hV.1.2.2.2.2.resolve_left (by omega)
      unfold manS at h
      split at h
      · rename_i z
        have hh := FV_h hX.1 hV.1 hk
        obtain ⟨d1, d2⟩ := FV_dep hX.1 hV.1 hk h1
        have hcel : 0 ≤ celE B f.1 (hdF f) ∧ celE B f.1 (hdF f) < 48 := by have := hh.2.2.2.2 (by omega); have := hV.1.1; unfold celE; omega
        refine INV_new hX.1 (fs := f :: fs) (by simpa using d1) (hX.2.1.2.2.1 _ _ hcel.1 hcel.2 hi0 z) (fun g hg => ?_) hV hSt (by omega) (by simp; omega) h
        rcases List.mem_cons.mp hg with rfl | hg
        · exact ⟨hk, h1, Or.inl ⟨h7, hi0, z⟩⟩
        · exact hV.2.1 g hg
      · cases h2 : sayE 5 s with
        | inl x => rw [h2] at h; cases h
        | inr s1 =>
          rw [h2] at h
          cases h
          obtain ⟨g1, g2, g3, g4⟩ := sayE_ext h2
          exact ⟨VAL_top hV rfl rfl hk hV.1.2.2.2.1 (Or.inl rfl), ⟨hSt.1, by have := EXT_l g1; have := hSt.2.1; show f.2.2.2.2.1 ≤ _; omega, hSt.2.2⟩, by rw [g3, g2]; omega, by simp; omega⟩
    · rename_i hi
      have hi1 : f.2.2.2.1 = -1 := by rcases hV.1.2.2.2.2 with w | w; exact w; omega
      cases h2 : sayE (10 + B (hdF f) 2) s with
      | inl x => rw [h2] at h; cases h
      | inr s1 =>
        rw [h2] at h
        obtain ⟨g1, g2, g3, g4⟩ := sayE_ext h2
        exact INV_val hX hV hk hi1 (STK_mono (EXT_l g1) hSt) (by rw [g3, g2]; omega) (by omega) h
theorem bgn_err {B : Mem} {s : SA} {r x : Int} {sets : List Int} {fs : List RF} (h : bgn B s r sets fs = .inl x) : x = -4 ∨ x = -5 := by
  unfold bgn at h
  split at h
  · cases h; exact Or.inl rfl
  · split at h
    · rename_i hs; cases h; exact Or.inr (sayE_i hs).2
    · cases h
theorem pln_err {c : Int} {s : SA} {f : RF} {fs : List RF} {x : Int} (h : plnS c s f fs = .inl x) : x = -4 ∨ x = -5 := by
  unfold plnS at h
  split at h
  · rename_i hs; cases h; exact Or.inr (sayE_i hs).2
  · cases h
theorem stp_err {B : Mem} {s : SA} {f : RF} {fs : List RF} {x : Int} (h : stp B s f fs = .inl x) : x = -4 ∨ x = -5 := by
  unfold stp at h
  split at h
  · unfold endS at h
    split at h
    · rename_i hs; cases h; exact Or.inr (sayE_i hs).2
    · cases h
  · split at h
    · unfold manS at h
      split at h
      · exact bgn_err h
      · split at h
        · rename_i hs; cases h; exact Or.inr (sayE_i hs).2
        · cases h
    · split at h
      · rename_i hs; cases h; exact Or.inr (sayE_i hs).2
      · unfold valS nonS at h
        split at h
        · exact pln_err h
        · split at h
          · split at h
            · rename_i hs; cases h; exact Or.inr (sayE_i hs).2
            · cases h
          · split at h
            · split at h
              · split at h
                · exact pln_err h
                · exact pln_err h
              · exact bgn_err h
            · split at h
              · split at h
                · exact pln_err h
                · exact pln_err h
              · exact pln_err h
/-- what ask of the reference leaves alone -/
def fA (M M' : Mem) : Prop := ∀ c y : Int, (c < 88 ∨ (89 ≤ c ∧ c ≤ 98) ∨ (c = 88 ∧ (y = 0 ∨ y = 3))) → M' c y = M c y
theorem fA_t {M M' M'' : Mem} (h : fA M M') (h' : fA M' M'') : fA M M'' := fun c y q => by rw [h' c y q, h c y q]
theorem fA_L {M M' : Mem} (h : fL 0 M M') : fA M M' := fun c y q => h c y (by omega)
theorem REFT_A {E N N' : Mem} (e : fA N N') (h : REFT E N) : REFT E N' := by
  have e2 : fL 0 N (fun c y => if (c < 88 ∨ (89 ≤ c ∧ c ≤ 98) ∨ (c = 88 ∧ (y = 0 ∨ y = 3))) then N' c y else N c y) := fun c y _ => by
    dsimp only
    split
    · rename_i q; exact e c y q
    · rfl
  have h2 := REFT_f e2 h
  obtain ⟨⟨m1, m2, m3, m4, m5, m6, m7⟩, ⟨b1, b2, b3, b4, b5, b6⟩, ⟨t1, t2, t3, t4⟩, v1, v2, v3⟩ := h2
  exact ⟨⟨m1, m2, m3, m4, m5, m6, m7⟩, ⟨b1, b2, b3, b4, b5, b6⟩, ⟨t1, t2, t3, t4⟩, v1, v2, v3⟩
/-- the answer of the reference -/
def RAN (B : Mem) (r v : Int) (M' : Mem) : Prop := match objE B 13 [20] r [] ([], 0, []) with
  | .inl x => v = x ∧ M' 88 31 = 0 ∧ M' 88 33 = 0
  | .inr ws => v = (ws.2.1.length : Int) ∧ CD M' ws.2
set_option maxHeartbeats 4000000 in
theorem k_Mo_ask (l : Launch) (n : Nat) (M : Mem) (hn : 117 ≤ n) (E B : Mem) (m : Nat) (r : Int) (hT : REFT E M) (hS : SCH E) (hTX : TXT E) (hX : (1 ≤ r ∧ r ≤ M 88 3) → ckQ E (E 7 (r - 1)) = -1 → EXB E B (E 7 (r - 1)) m) : AX l m_Mo_ask 7 [.inr 88, .inl r] n M (fun v M' => (¬ (1 ≤ r ∧ r ≤ M 88 3) → v = -1 ∧ M' = M) ∧ ((1 ≤ r ∧ r ≤ M 88 3) → fA M M' ∧ M' 88 12 = ckQ E (E 7 (r - 1)) ∧ (¬ ckQ E (E 7 (r - 1)) = -1 → v = -3 ∧ M' 88 31 = 0 ∧ M' 88 33 = 0) ∧ (ckQ E (E 7 (r - 1)) = -1 → RAN B r v M'))) := by
  refine AM_intro (by decide) (Nat.le_of_ble_eq_true rfl) (fun X b0 D hC _ => ?_)
  show AW X b0 D true 0 0 _ n M 0 [some (.inr 88), some (.inl r), none] []
  have hb3 := hT.2.1.2.2.1
  have hf1 : fA M (up (up (up (up M 88 31 0) 88 33 0) 88 30 0) 88 17 0) := fun c y q => by rw [up_nc_or (by omega), up_nc_or (by omega), up_nc_or (by omega), up_nc_or (by omega)]
  have hT1 := REFT_A hf1 hT
  have hv1 : (up (up (up (up M 88 31 0) 88 33 0) 88 30 0) 88 17 0) 88 31 = 0 ∧ (up (up (up (up M 88 31 0) 88 33 0) 88 30 0) 88 17 0) 88 33 = 0 ∧ (up (up (up (up M 88 31 0) 88 33 0) 88 30 0) 88 17 0) 88 30 = 0 ∧ (up (up (up (up M 88 31 0) 88 33 0) 88 30 0) 88 17 0) 88 17 = 0 := ⟨by rw [up_nk (by decide), up_nk (by decide), up_nk (by decide), up_eq], by rw [up_nk (by decide), up_nk (by decide), up_eq], by rw [up_nk (by decide), up_eq], up_eq _ _ _ _⟩
  refine A_ild1 hC d_Mo_ask_0 ?_
  refine A_iconst hC d_Mo_ask_1 (by decide) ?_
  refine A_ald0 hC d_Mo_ask_2 ?_
  refine A_getI (kI := 3) hC d_Mo_ask_3 fF_Mo_102 ⟨by decide, rfl⟩ rfl ly_88 (by omega) ?_
  refine A_SF1 (as := [.inl r, .inl 1, .inl (M 88 3)]) hC d_Mo_ask_6 mv_Mo_in lk_Mo_105 (by decide) (k_Mo_in l n M hn r 1 (M 88 3)) rfl rfl (Nat.le_of_ble_eq_true rfl) ⟨Nat.zero_le _, Nat.zero_le _⟩ rfl ?_
  refine A_ifne (tgt := 14) hC d_Mo_ask_9 (by decide) (fun h9 => ?_) (fun h9 => ?_)
  · have hrr : 1 ≤ r ∧ r ≤ M 88 3 := by
      apply Classical.byContradiction
      intro w
      rw [if_neg w] at h9
      exact h9 rfl
    have h91 : M 91 r = E 7 (r - 1) := hT.2.2.2.1 r hrr.1 (by omega)
    have h91b := hT.2.1.2.2.2.1 r
    rw [h91] at h91b
    refine A_ald0 hC d_Mo_ask_14 ?_
    refine A_iconst hC d_Mo_ask_15 (by decide) ?_
    refine A_putI (kI := 31) hC d_Mo_ask_16 fP_Mo_160 ⟨by decide, rfl⟩ rfl ly_88 (by omega) (fun _ => by decide) ?_
    refine A_ald0 hC d_Mo_ask_19 ?_
    refine A_iconst hC d_Mo_ask_20 (by decide) ?_
    refine A_putI (kI := 33) hC d_Mo_ask_21 fP_Mo_175 ⟨by decide, rfl⟩ rfl ly_88 (by omega) (fun _ => by decide) ?_
    refine A_ald0 hC d_Mo_ask_24 ?_
    refine A_iconst hC d_Mo_ask_25 (by decide) ?_
    refine A_putI (kI := 30) hC d_Mo_ask_26 fP_Mo_169 ⟨by decide, rfl⟩ rfl ly_88 (by omega) (fun _ => by decide) ?_
    refine A_ald0 hC d_Mo_ask_29 ?_
    refine A_iconst hC d_Mo_ask_30 (by decide) ?_
    refine A_putI (kI := 17) hC d_Mo_ask_31 fP_Mo_157 ⟨by decide, rfl⟩ rfl ly_88 (by omega) (fun _ => by decide) ?_
    refine A_ald0 hC d_Mo_ask_34 ?_
    refine A_ald0 hC d_Mo_ask_35 ?_
    refine A_getCR (v := 91) hC d_Mo_ask_36 fF_Mo_16 ⟨by decide, rfl⟩ ly_88 (by omega) ⟨rfl, by decide⟩ cv_88_4 ?_
    refine A_ild1 hC d_Mo_ask_39 ?_
    refine A_ialdE (x := M 91 r) hC d_Mo_ask_40 ly_91 (by omega) (by omega) (by rw [up_nc (c := 88) (c' := 91) (by decide), up_nc (c := 88) (c' := 91) (by decide), up_nc (c := 88) (c' := 91) (by decide), up_nc (c := 88) (c' := 91) (by decide)]) ?_
    refine A_eqi h91 ?_
    refine A_VR1 (as := [.inl (E 7 (r - 1))]) hC d_Mo_ask_41 mv_Mo_checked lk_Mo_144 (by decide) sel_Mo_checked hq_Mo ly_88 (by omega) (k_Mo_checked l n (up (up (up (up M 88 31 0) 88 33 0) 88 30 0) 88 17 0) hn E hT1.1 hS hTX hT1.2.1 (E 7 (r - 1)) (by omega)) rfl rfl (Nat.le_of_ble_eq_true rfl) ⟨Nat.zero_le _, Nat.zero_le _⟩ rfl (fun M2 hM2 => ?_)
    obtain ⟨hM212, hM2f⟩ := hM2
    refine A_ifne (tgt := 50) hC d_Mo_ask_44 (by decide) (fun h44 => ?_) (fun h44 => ?_)
    · have hck : ckQ E (E 7 (r - 1)) = -1 := by
        apply Classical.byContradiction
        intro w
        rw [if_neg w] at h44
        exact h44 rfl
      have hE := hX hrr hck
      have hv2 : M2 88 31 = 0 ∧ M2 88 33 = 0 ∧ M2 88 30 = 0 ∧ M2 88 17 = 0 := by
        rw [hM2f 88 31 (by decide) (by decide) (by decide) (by decide), hM2f 88 33 (by decide) (by decide) (by decide) (by decide), hM2f 88 30 (by decide) (by decide) (by decide) (by decide), hM2f 88 17 (by decide) (by decide) (by decide) (by decide)]
        exact hv1
      have hf2 : fA M M2 := fA_t hf1 (fun c y q => hM2f c y (by omega) (by omega) (by omega) (by omega))
      have hT2 := REFT_A hf2 hT
      have hCD : CD M2 ([], 0, []) := ⟨⟨hv2.1, fun k hk => absurd hk (Nat.not_lt_zero k), by decide⟩, ⟨hv2.2.2.1, by decide⟩, ⟨hv2.2.1, by decide⟩, fun p hp => absurd hp List.not_mem_nil, fun k hk => absurd hk (Nat.not_lt_zero k)⟩
      obtain ⟨x, R0, c0, hcls⟩ := CTX_c hE.1 (Nat.zero_le m) (Or.inl rfl)
      have hx0 : x = (E 7 (r - 1), -1, 0) ∧ R0 = [] := by
        have := hcls.1.1
        have e : tS E (E 7 (r - 1)) 0 = [(E 7 (r - 1), -1, 0)] := rfl
        rw [e] at this
        simp at this
        exact ⟨this.1.symm, this.2⟩
      have hSP : SETP B ((m : Int) + 1) [20] := ⟨fun p hp => by simp at hp; omega, fun p hp c hc w => by simp at hp hc; omega, by simp⟩
      have hSC : SETC E (E 7 (r - 1)) m (E 7 (r - 1)) [20] := fun p hp => by
        simp at hp
        exact ⟨0, c0, x, R0, by rw [hp]; rfl, hcls, by rw [hx0.1], Or.inr (by rw [hx0.1])⟩
      have hSD : SDEP E B (E 7 (r - 1)) m 0 [20] := ⟨hSP, by simp, fun p hp => by
        simp at hp
        exact ⟨0, by rw [hp]; rfl, Nat.zero_le _, Or.inl rfl, Nat.le_refl 1⟩⟩
      obtain ⟨RR, hRR⟩ : ∃ RR : Int ⊕ SA, RR = (match objE B 13 [20] r [] ([], 0, []) with | .inl e => .inl e | .inr q => .inr q.2) := ⟨_, rfl⟩
      have hRB : RunsB B (bgn B ([], 0, []) r [20] []) RR := by
        refine OBJR_all hE 13 ([], 0, []) r [20] [] RR rfl hSD ?_
        show CONT B (objE B 13 [20] r [] ([], 0, [])) _ RR
        cases ho : objE B 13 [20] r [] ([], 0, []) with
        | inl e => rw [ho] at hRR; exact hRR
        | inr q => rw [ho] at hRR; exact ⟨0, by rw [hRR]; rfl⟩
      have post : ∀ (v : Int) (N : Mem), fA M N → N 88 12 = -1 → RAN B r v N → n = n ∧ ∃ w : Int, (some (Sum.inl v) : Option AV) = some (.inl w) ∧ ((¬ (1 ≤ r ∧ r ≤ M 88 3) → w = -1 ∧ N = M) ∧ ((1 ≤ r ∧ r ≤ M 88 3) → fA M N ∧ N 88 12 = ckQ E (E 7 (r - 1)) ∧ (¬ ckQ E (E 7 (r - 1)) = -1 → w = -3 ∧ N 88 31 = 0 ∧ N 88 33 = 0) ∧ (ckQ E (E 7 (r - 1)) = -1 → RAN B r w N))) := fun v N p1 p2 p3 => ⟨rfl, v, rfl, fun w => absurd hrr w, fun _ => ⟨p1, by rw [p2, hck], fun w => absurd hck w, fun _ => p3⟩⟩
      have stopx : ∀ (N : Mem) (x : Int), x ≠ 0 → RR = .inl x → fA M N → N 88 12 = -1 → AW X b0 D true 0 0 (fx_Q X b0 D true 0 0 (fun r' n' M' => n' = n ∧ ∃ v : Int, r' = some (.inl v) ∧ ((¬ (1 ≤ r ∧ r ≤ M 88 3) → v = -1 ∧ M' = M) ∧ ((1 ≤ r ∧ r ≤ M 88 3) → fA M M' ∧ M' 88 12 = ckQ E (E 7 (r - 1)) ∧ (¬ ckQ E (E 7 (r - 1)) = -1 → v = -3 ∧ M' 88 31 = 0 ∧ M' 88 33 = 0) ∧ (ckQ E (E 7 (r - 1)) = -1 → RAN B r v M'))))) n N 56 [some (.inr 88), some (.inl r), some (.inl x)] [] := by
        intro N x hx0 hq hfN h12
        have hob : objE B 13 [20] r [] ([], 0, []) = .inl x := by
          cases ho : objE B 13 [20] r [] ([], 0, []) with
          | inl e => rw [ho, hq] at hRR; cases hRR; rfl
          | inr q => rw [ho, hq] at hRR; cases hRR
        refine A_ild2 hC d_Mo_ask_56 ?_
        refine A_ifne (tgt := 75) hC d_Mo_ask_57 (by decide) (fun h57 => ?_) (fun h57 => ?_)
        · refine A_ild2 hC d_Mo_ask_75 ?_
          refine A_ifne (tgt := 84) hC d_Mo_ask_76 (by decide) (fun h76 => ?_) (fun h76 => ?_)
          · refine A_ald0 hC d_Mo_ask_84 ?_
            refine A_iconst hC d_Mo_ask_85 (by decide) ?_
            refine A_putI (kI := 31) hC d_Mo_ask_86 fP_Mo_160 ⟨by decide, rfl⟩ rfl ly_88 (by omega) (fun _ => by decide) ?_
            refine A_ald0 hC d_Mo_ask_89 ?_
            refine A_iconst hC d_Mo_ask_90 (by decide) ?_
            refine A_putI (kI := 33) hC d_Mo_ask_91 fP_Mo_175 ⟨by decide, rfl⟩ rfl ly_88 (by omega) (fun _ => by decide) ?_
            refine A_ild2 hC d_Mo_ask_94 ?_
            refine A_iret hC d_Mo_ask_95 rfl (Nat.le_refl _) (Nat.le_refl _) ?_
            exact post x _ (fun c y q => by rw [up_nc_or (by omega), up_nc_or (by omega)]; exact hfN c y q) (by rw [up_nk (by decide), up_nk (by decide)]; exact h12) (by unfold RAN; rw [hob]; exact ⟨rfl, by rw [up_nk (by decide), up_eq], up_eq _ _ _ _⟩)
          · exact absurd h76 hx0
        · exact absurd h57 hx0
      have loop : ∀ (k : Nat) (s : SA) (fs : List RF) (N : Mem), run B k s fs = some RR → RSt E B (E 7 (r - 1)) N s fs → INV E B (E 7 (r - 1)) m s fs → fA M N → N 88 12 = -1 → AW X b0 D true 0 0 (fx_Q X b0 D true 0 0 (fun r' n' M' => n' = n ∧ ∃ v : Int, r' = some (.inl v) ∧ ((¬ (1 ≤ r ∧ r ≤ M 88 3) → v = -1 ∧ M' = M) ∧ ((1 ≤ r ∧ r ≤ M 88 3) → fA M M' ∧ M' 88 12 = ckQ E (E 7 (r - 1)) ∧ (¬ ckQ E (E 7 (r - 1)) = -1 → v = -3 ∧ M' 88 31 = 0 ∧ M' 88 33 = 0) ∧ (ckQ E (E 7 (r - 1)) = -1 → RAN B r v M'))))) n N 56 [some (.inr 88), some (.inl r), some (.inl 0)] [] := by
        intro k
        induction k with
        | zero =>
          intro s fs N hrun hR hI hfN h12
          cases fs with
          | nil =>
            cases hrun
            have h17 : N 88 17 = 0 := hR.2.2.1
            have hcN := hR.2.1.1.1
            have hob : ∃ u, objE B 13 [20] r [] ([], 0, []) = .inr (u, s) := by
              cases ho : objE B 13 [20] r [] ([], 0, []) with
              | inl e => rw [ho] at hRR; cases hRR
              | inr q => rw [ho] at hRR; cases hRR; exact ⟨q.1, rfl⟩
            obtain ⟨u, hob⟩ := hob
            refine A_ild2 hC d_Mo_ask_56 ?_
            refine A_ifne (tgt := 75) hC d_Mo_ask_57 (by decide) (fun h57 => ?_) (fun h57 => ?_)
            · exact absurd rfl h57
            · refine A_ald0 hC d_Mo_ask_60 ?_
              refine A_getI (kI := 17) hC d_Mo_ask_61 fF_Mo_157 ⟨by decide, rfl⟩ rfl ly_88 (by omega) ?_
              refine A_ifle (tgt := 75) hC d_Mo_ask_64 (by decide) (fun h64 => ?_) (fun h64 => ?_)
              · refine A_ild2 hC d_Mo_ask_75 ?_
                refine A_ifne (tgt := 84) hC d_Mo_ask_76 (by decide) (fun h76 => ?_) (fun h76 => ?_)
                · exact absurd rfl h76
                · refine A_ald0 hC d_Mo_ask_79 ?_
                  refine A_getI (kI := 31) hC d_Mo_ask_80 fF_Mo_160 ⟨by decide, rfl⟩ rfl ly_88 (by omega) ?_
                  refine A_iret hC d_Mo_ask_83 rfl (Nat.le_refl _) (Nat.le_refl _) ?_
                  exact post _ N hfN h12 (by unfold RAN; rw [hob]; exact ⟨hcN, hR.2.1⟩)
              · exact absurd h64 (by omega)
          | cons f fs => cases hrun
        | succ k ih =>
          intro s fs N hrun hR hI hfN h12
          cases fs with
          | nil =>
            cases hrun
            have h17 : N 88 17 = 0 := hR.2.2.1
            have hcN := hR.2.1.1.1
            have hob : ∃ u, objE B 13 [20] r [] ([], 0, []) = .inr (u, s) := by
              cases ho : objE B 13 [20] r [] ([], 0, []) with
              | inl e => rw [ho] at hRR; cases hRR
              | inr q => rw [ho] at hRR; cases hRR; exact ⟨q.1, rfl⟩
            obtain ⟨u, hob⟩ := hob
            refine A_ild2 hC d_Mo_ask_56 ?_
            refine A_ifne (tgt := 75) hC d_Mo_ask_57 (by decide) (fun h57 => ?_) (fun h57 => ?_)
            · exact absurd rfl h57
            · refine A_ald0 hC d_Mo_ask_60 ?_
              refine A_getI (kI := 17) hC d_Mo_ask_61 fF_Mo_157 ⟨by decide, rfl⟩ rfl ly_88 (by omega) ?_
              refine A_ifle (tgt := 75) hC d_Mo_ask_64 (by decide) (fun h64 => ?_) (fun h64 => ?_)
              · refine A_ild2 hC d_Mo_ask_75 ?_
                refine A_ifne (tgt := 84) hC d_Mo_ask_76 (by decide) (fun h76 => ?_) (fun h76 => ?_)
                · exact absurd rfl h76
                · refine A_ald0 hC d_Mo_ask_79 ?_
                  refine A_getI (kI := 31) hC d_Mo_ask_80 fF_Mo_160 ⟨by decide, rfl⟩ rfl ly_88 (by omega) ?_
                  refine A_iret hC d_Mo_ask_83 rfl (Nat.le_refl _) (Nat.le_refl _) ?_
                  exact post _ N hfN h12 (by unfold RAN; rw [hob]; exact ⟨hcN, hR.2.1⟩)
              · exact absurd h64 (by omega)
          | cons f fs =>
            have h17 : N 88 17 = (fs.length : Int) + 1 := by rw [hR.2.2.1]; simp
            have hl13 := hI.2.2.2
            simp only [List.length_cons] at hl13
            have hrun : (match stp B s f fs with | .inl x => some (.inl x) | .inr q => run B k q.1 q.2) = some RR := hrun
            refine A_ild2 hC d_Mo_ask_56 ?_
            refine A_ifne (tgt := 75) hC d_Mo_ask_57 (by decide) (fun h57 => ?_) (fun h57 => ?_)
            · exact absurd rfl h57
            · refine A_ald0 hC d_Mo_ask_60 ?_
              refine A_getI (kI := 17) hC d_Mo_ask_61 fF_Mo_157 ⟨by decide, rfl⟩ rfl ly_88 (by omega) ?_
              refine A_ifle (tgt := 75) hC d_Mo_ask_64 (by decide) (fun h64 => ?_) (fun h64 => ?_)
              · exact absurd h64 (by omega)
              · refine A_ald0 hC d_Mo_ask_67 ?_
                refine A_VX (as := []) hC d_Mo_ask_68 mv_Mo_step lk_Mo_202 (by decide) sel_Mo_step hq_Mo ly_88 (by omega) (k_Mo_step l n N hn E B (E 7 (r - 1)) m hE s f fs hR hI.1 (by omega) hI.2.1 hI.2.2.1) rfl rfl (Nat.le_of_ble_eq_true rfl) ⟨Nat.zero_le _, Nat.zero_le _⟩ rfl (fun v N1 hv => ?_)
                obtain ⟨hvf, hvm⟩ := hv
                refine A_ist2 hC d_Mo_ask_71 ?_
                refine A_goto (tgt := 56) hC d_Mo_ask_72 (by decide) ?_
                have hfN1 := fA_t hfN (fA_L hvf)
                have h12' : N1 88 12 = -1 := by rw [hvf 88 12 (by decide)]; exact h12
                cases hs : stp B s f fs with
                | inl x =>
                  rw [hs] at hvm hrun
                  have hvm : v = x := hvm
                  subst hvm
                  have hx := stp_err hs
                  exact stopx N1 v (by omega) (by cases hrun; rfl) hfN1 h12'
                | inr q =>
                  obtain ⟨s', fs'⟩ := q
                  rw [hs] at hvm hrun
                  have hv0 : v = 0 := hvm.1
                  subst hv0
                  exact ih s' fs' N1 hrun hvm.2 (INV_stp hE hI hs) hfN1 h12'
      refine A_ald0 hC d_Mo_ask_50 ?_
      refine A_ild1 hC d_Mo_ask_51 ?_
      refine A_VX (as := [.inl r]) hC d_Mo_ask_52 mv_Mo_begin lk_Mo_188 (by decide) sel_Mo_begin hq_Mo ly_88 (by omega) (k_Mo_begin0 l n M2 hn E B (E 7 (r - 1)) m hE.1 hT2.2.2.1 0 (E 7 (r - 1)) r hv2.2.2.2 (by omega) (by rw [hT2.2.2.2.1 r hrr.1 (by omega)]) ([], 0, []) hCD [20] hSP hSC rfl rfl) rfl rfl (Nat.le_of_ble_eq_true rfl) ⟨Nat.zero_le _, Nat.zero_le _⟩ rfl (fun v N1 hv => ?_)
      refine A_ist2 hC d_Mo_ask_55 ?_
      have hvO := BEG_bgn (fs := []) hE hSP hT2 trivial (by rw [← hT.2.2.2.2.2]; exact hrr.2) (by exact hv)
      obtain ⟨hvf, hvm⟩ := hvO
      have hfN1 := fA_t hf2 (fA_L hvf)
      have h12' : N1 88 12 = -1 := by rw [hvf 88 12 (by decide), hM212]; exact hck
      cases hs : bgn B ([], 0, []) r [20] [] with
      | inl x =>
        rw [hs] at hvm hRB
        have hvm : v = x := hvm
        subst hvm
        have hx := bgn_err hs
        exact stopx N1 v (by omega) hRB hfN1 h12'
      | inr q =>
        obtain ⟨s', fs'⟩ := q
        rw [hs] at hvm hRB
        have hv0 : v = 0 := hvm.1
        subst hv0
        obtain ⟨k, hk⟩ := hRB
        exact loop k s' fs' N1 hk hvm.2 (INV_new hE.1 (fs := []) hSD (by omega) (fun g hg => absurd hg List.not_mem_nil) trivial trivial (by decide) (by decide) hs) hfN1 h12'
    · refine A_bipush hC d_Mo_ask_47 (by decide) (by decide) ?_
      refine A_iret hC d_Mo_ask_49 rfl (Nat.le_refl _) (Nat.le_refl _) ?_
      refine ⟨rfl, _, rfl, fun w => absurd hrr w, fun _ => ⟨fA_t hf1 (fun c y q => hM2f c y (by omega) (by omega) (by omega) (by omega)), hM212, fun _ => ⟨rfl, ?_, ?_⟩, fun w => ?_⟩⟩
      · rw [hM2f 88 31 (by decide) (by decide) (by decide) (by decide)]; exact hv1.1
      · rw [hM2f 88 33 (by decide) (by decide) (by decide) (by decide)]; exact hv1.2.1
      · rw [if_pos w] at h44
        exact absurd h44 (by decide)
  · refine A_iconst hC d_Mo_ask_12 (by decide) ?_
    refine A_iret hC d_Mo_ask_13 rfl (Nat.le_refl _) (Nat.le_refl _) ?_
    refine ⟨rfl, _, rfl, fun _ => ⟨rfl, rfl⟩, fun w => ?_⟩
    exfalso
    rw [if_pos w] at h9
    exact absurd h9 (by decide)
