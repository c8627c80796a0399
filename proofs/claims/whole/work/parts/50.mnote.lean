theorem len1 {α : Type} (a : Int) (L : List α) (x : α) : a + ((L ++ [x]).length : Int) = a + (L.length : Int) + 1 := by
  simp; omega
theorem offP_apps : ∀ (A L : List (List Int)), offP (A ++ L) = offP A + offP L
  | [], L => by simp [offP]
  | a :: A, L => by
    show (a.length : Int) + offP (A ++ L) = (a.length : Int) + offP A + offP L
    rw [offP_apps A L]; omega
-- ===== the reference: levels
/-- a level: row, ENTRIES, which of them, which of a MANY, where its codes start, whether it is bad -/
abbrev RF : Type := Int × List (List Int) × Nat × Int × Int × Int
abbrev hdF (f : RF) : Int := hdE (f.2.1.getD f.2.2.1 [])
def RFR (E B : Mem) (t : Int) (N : Mem) (j : Int) (f : RF) : Prop := N 102 j = f.1 ∧ (∃ SL, RL B (TK E t) N j f.2.1 SL ∧ SLR B f.2.1 SL ∧ SL.length ≤ 60 ∧ f.1 ≤ E 6 4) ∧ (N 110 j = (f.2.2.1 : Int) ∧ N 111 j = f.2.2.2.1 ∧ N 112 j = f.2.2.2.2.1 ∧ N 113 j = f.2.2.2.2.2) ∧ f.2.1.length ≤ 10 ∧ ∀ c ∈ f.2.1.flatten, TYC E B (E 7 (f.1 - 1)) c
def RFS (E B : Mem) (t : Int) (N : Mem) : List RF → Prop
  | [] => True
  | f :: fs => RFR E B t N (fs.length : Int) f ∧ RFS E B t N fs
theorem RL_eq2 {B : Mem} {tk : Int → Int} {N N' : Mem} {j : Int} {es : List (List Int)} {SL : List (Int × Nat)} (h1 : N' 103 j = N 103 j ∧ N' 107 j = N 107 j) (h2 : ∀ c y : Int, (c = 104 ∨ c = 105 ∨ c = 106) → 10 * j ≤ y → y < 10 * j + (es.length : Int) → N' c y = N c y) (h3 : ∀ c y : Int, (c = 108 ∨ c = 109) → 64 * j ≤ y → y < 64 * j + (SL.length : Int) → N' c y = N c y) (h : RL B tk N j es SL) : RL B tk N' j es SL := by
  obtain ⟨⟨a1, a2⟩, a3, a4⟩ := h
  refine ⟨⟨by rw [h1.1]; exact a1, fun k hk => ?_⟩, by rw [h1.2]; exact a3, fun a ha => ?_⟩
  · rw [h2 104 _ (by decide) (by omega) (by omega), h2 105 _ (by decide) (by omega) (by omega), h2 106 _ (by decide) (by omega) (by omega)]
    exact a2 k hk
  · rw [h3 108 _ (by decide) (by omega) (by omega), h3 109 _ (by decide) (by omega) (by omega)]
    exact a4 a ha
theorem RFR_f {E B : Mem} {t : Int} {N N' : Mem} {i j : Int} {f : RF} (hij : i < j) (e : fL j N N') (h : RFR E B t N i f) : RFR E B t N' i f := by
  obtain ⟨h1, ⟨SL, h2, h3, h4⟩, ⟨h5, h6, h7, h8⟩, h9, h10⟩ := h
  refine ⟨by rw [e 102 i (by omega)]; exact h1, ⟨SL, RL_eq2 ⟨e 103 i (by omega), e 107 i (by omega)⟩ (fun c y hc y1 y2 => e c y (by omega)) (fun c y hc y1 y2 => e c y (by omega)) h2, h3, h4⟩, ⟨by rw [e 110 i (by omega)]; exact h5, by rw [e 111 i (by omega)]; exact h6, by rw [e 112 i (by omega)]; exact h7, by rw [e 113 i (by omega)]; exact h8⟩, h9, h10⟩
theorem RFS_f {E B : Mem} {t : Int} {N N' : Mem} : ∀ {fs : List RF} {j : Int}, (fs.length : Int) ≤ j → fL j N N' → RFS E B t N fs → RFS E B t N' fs
  | [], _, _, _, _ => trivial
  | f :: fs, j, hj, e, h => by
    simp only [List.length_cons] at hj
    exact ⟨RFR_f (by omega) e h.1, RFS_f (by omega) e h.2⟩
/-- the levels stay, but for what is written of one -/
theorem RFR_set {E B : Mem} {t : Int} {N N' : Mem} {j : Int} {r : Int} {es : List (List Int)} {k k' : Nat} {im im' st bd bd' : Int} (e : ∀ c y : Int, 102 ≤ c → c ≤ 113 → c ≠ 110 → c ≠ 111 → c ≠ 113 → N' c y = N c y) (e1 : N' 110 j = (k' : Int)) (e2 : N' 111 j = im') (e3 : N' 113 j = bd') (h : RFR E B t N j (r, es, k, im, st, bd)) : RFR E B t N' j (r, es, k', im', st, bd') := by
  obtain ⟨h1, ⟨SL, h2, h3, h4⟩, ⟨h5, h6, h7, h8⟩, h9, h10⟩ := h
  exact ⟨by rw [e 102 j (by decide) (by decide) (by decide) (by decide) (by decide)]; exact h1, ⟨SL, RL_eq (fun c y c1 c2 => e c y (by omega) (by omega) (by omega) (by omega) (by omega)) h2, h3, h4⟩, ⟨e1, e2, by rw [e 112 j (by decide) (by decide) (by decide) (by decide) (by decide)]; exact h7, e3⟩, h9, h10⟩
theorem RFR_eq {E B : Mem} {t : Int} {N N' : Mem} {j : Int} {f : RF} (e : ∀ c y : Int, 102 ≤ c → c ≤ 113 → N' c y = N c y) (h : RFR E B t N j f) : RFR E B t N' j f := by
  obtain ⟨h1, ⟨SL, h2, h3, h4⟩, ⟨h5, h6, h7, h8⟩, h9, h10⟩ := h
  exact ⟨by rw [e 102 j (by decide) (by decide)]; exact h1, ⟨SL, RL_eq (fun c y c1 c2 => e c y (by omega) (by omega)) h2, h3, h4⟩, ⟨by rw [e 110 j (by decide) (by decide)]; exact h5, by rw [e 111 j (by decide) (by decide)]; exact h6, by rw [e 112 j (by decide) (by decide)]; exact h7, by rw [e 113 j (by decide) (by decide)]; exact h8⟩, h9, h10⟩
theorem RFS_eq {E B : Mem} {t : Int} {N N' : Mem} (e : ∀ c y : Int, 102 ≤ c → c ≤ 113 → N' c y = N c y) : ∀ {fs : List RF}, RFS E B t N fs → RFS E B t N' fs
  | [], _ => trivial
  | f :: fs, h => ⟨RFR_eq e h.1, RFS_eq e h.2⟩
theorem RFS_get {E B : Mem} {t : Int} {N : Mem} : ∀ {A : List RF} {f : RF} {D : List RF}, RFS E B t N (A ++ f :: D) → RFR E B t N (D.length : Int) f
  | [], _, _, h => h.1
  | _ :: A, f, D, h => RFS_get (A := A) h.2
/-- the rows and what is in them -/
def VR (E N : Mem) : Prop := (∀ r : Int, 1 ≤ r → r ≤ 12 → N 91 r = E 7 (r - 1)) ∧ (∀ r f : Int, 1 ≤ r → r ≤ E 6 4 → 0 ≤ f → f ≤ 3 → (kO E (E 7 (r - 1)) f = 0 → (E 8 ((r - 1) * 4 + f) = -1 → N 92 (4 * r + f) = 0) ∧ (E 8 ((r - 1) * 4 + f) ≠ -1 → N 92 (4 * r + f) ≠ 0 ∧ N 93 (4 * (4 * r + f)) = E 8 ((r - 1) * 4 + f))) ∧ (kO E (E 7 (r - 1)) f = 1 ∨ kO E (E 7 (r - 1)) f = 2 → N 92 (4 * r + f) = E 9 ((r - 1) * 4 + f) ∧ ∀ a : Int, 0 ≤ a → a < E 9 ((r - 1) * 4 + f) → N 93 (4 * (4 * r + f) + a) = E 10 (((r - 1) * 4 + f) * 4 + a))) ∧ N 88 3 = E 6 4
/-- what a row links to has the type that its field wants -/
def LKT (E : Mem) : Prop := ∀ r f a : Int, 1 ≤ r → r ≤ E 6 4 → 0 ≤ f → f ≤ 3 → 0 ≤ a → a < E 9 ((r - 1) * 4 + f) → (tO E (E 7 (r - 1)) f = 5 ∨ E 7 (E 10 (((r - 1) * 4 + f) * 4 + a) - 1) = tO E (E 7 (r - 1)) f) ∧ E 10 (((r - 1) * 4 + f) * 4 + a) ≤ E 6 4
def REFT (E N : Mem) : Prop := MT E N ∧ MB N ∧ RT E N ∧ VR E N
theorem REFT_f {E N N' : Mem} (e : fL 0 N N') (h : REFT E N) : REFT E N' := by
  obtain ⟨⟨m1, m2, m3, m4, m5, m6, m7⟩, ⟨b1, b2, b3, b4, b5, b6⟩, ⟨t1, t2, t3, t4⟩, v1, v2, v3⟩ := h
  have q : ∀ c y : Int, 89 ≤ c → c ≤ 98 → N' c y = N c y := fun c y c1 c2 => e c y (by omega)
  have q0 : N' 88 0 = N 88 0 := e 88 0 (by omega)
  have q3 : N' 88 3 = N 88 3 := e 88 3 (by omega)
  refine ⟨⟨fun i => by rw [q 95 i (by decide) (by decide)]; exact m1 i, fun i => by rw [q 96 i (by decide) (by decide)]; exact m2 i, fun i => by rw [q 97 i (by decide) (by decide)]; exact m3 i, fun i => by rw [q 98 i (by decide) (by decide)]; exact m4 i, by rw [q0]; exact m5, fun i => by rw [q 89 i (by decide) (by decide)]; exact m6 i, fun t f h1 h2 h3 h4 => ?_⟩, ⟨by rw [q0]; exact b1, fun i => by rw [q 89 i (by decide) (by decide)]; exact b2 i, by rw [q3]; exact b3, fun i => by rw [q 91 i (by decide) (by decide)]; exact b4 i, fun i => by rw [q 92 i (by decide) (by decide)]; exact b5 i, fun i => by rw [q 95 i (by decide) (by decide)]; exact b6 i⟩, ⟨fun i => by rw [q 96 i (by decide) (by decide)]; exact t1 i, fun i => by rw [q 97 i (by decide) (by decide)]; exact t2 i, fun i => by rw [q 98 i (by decide) (by decide)]; exact t3 i, fun i => by rw [q 94 i (by decide) (by decide)]; exact t4 i⟩, fun r h1 h2 => by rw [q 91 r (by decide) (by decide)]; exact v1 r h1 h2, fun r f h1 h2 h3 h4 => ?_, by rw [q3]; exact v3⟩
  · rw [q 90 _ (by decide) (by decide), q 90 _ (by decide) (by decide), q 90 _ (by decide) (by decide)]
    exact m7 t f h1 h2 h3 h4
  · rw [q 92 _ (by decide) (by decide), q 93 _ (by decide) (by decide)]
    obtain ⟨w1, w2⟩ := v2 r f h1 h2 h3 h4
    exact ⟨w1, fun z => ⟨(w2 z).1, fun a a1 a2 => by rw [q 93 _ (by decide) (by decide)]; exact (w2 z).2 a a1 a2⟩⟩
def RSt (E B : Mem) (t : Int) (N : Mem) (s : SA) (fs : List RF) : Prop := REFT E N ∧ CD N s ∧ N 88 17 = (fs.length : Int) ∧ RFS E B t N fs
/-- the place of the levels: names, and numbers of MANYS -/
def preF (B : Mem) : List RF → List Int
  | [] => []
  | f :: fs => preF B fs ++ [B (hdF f) 2] ++ (if B (hdF f) 7 = 2 then [10 + f.2.2.2.1] else [])
/-- what holds of the levels -/
def FV (E B : Mem) (t : Int) (m : Nat) (L : Nat) (f : RF) : Prop := (1 ≤ f.1 ∧ f.1 ≤ 12) ∧ (EPC B f.2.1 ∧ AC B f.2.1.flatten ∧ ∀ c ∈ f.2.1.flatten, isEP B c ∧ (20 < c ∧ c < 20 + ((m : Int) + 1)) ∧ (B c 1 = 1 → L + 2 ≤ cntN (tS E t (c - 20).toNat))) ∧ f.2.2.1 ≤ f.2.1.length ∧ (f.2.2.2.2.2 = 0 ∨ f.2.2.2.2.2 = 1) ∧ (f.2.2.2.1 = -1 ∨ (0 ≤ f.2.2.2.1 ∧ f.2.2.1 < f.2.1.length ∧ B (hdF f) 1 = 1 ∧ B (hdF f) 7 = 2 ∧ f.2.2.2.1 ≤ B 9 (celE B f.1 (hdF f))))
/-- a level with one above it -/
def PAR (B : Mem) (f : RF) : Prop := f.2.2.1 < f.2.1.length ∧ B (hdF f) 1 = 1 ∧ ((B (hdF f) 7 = 2 ∧ 0 ≤ f.2.2.2.1 ∧ f.2.2.2.1 < B 9 (celE B f.1 (hdF f))) ∨ (B (hdF f) 7 = 1 ∧ f.2.2.2.1 = -1))
def VAL (E B : Mem) (t : Int) (m : Nat) : List RF → Prop
  | [] => True
  | f :: fs => FV E B t m fs.length f ∧ (∀ g ∈ fs, PAR B g) ∧ VAL E B t m fs
theorem VAL_get {E B : Mem} {t : Int} {m : Nat} : ∀ {A : List RF} {f : RF} {D : List RF}, VAL E B t m (A ++ f :: D) → FV E B t m D.length f ∧ (A ≠ [] → PAR B f)
  | [], _, _, h => ⟨h.1, fun q => absurd rfl q⟩
  | a :: A, f, D, h => ⟨(VAL_get (A := A) h.2.2).1, fun _ => h.2.1 f (List.mem_append_right _ List.mem_cons_self)⟩
/-- the ENTRY where a level stands -/
theorem FV_h {E B : Mem} {t : Int} {m L : Nat} (hX : CTX E B t m) {f : RF} (h : FV E B t m L f) (hk : f.2.2.1 < f.2.1.length) : hdF f ∈ f.2.1.flatten ∧ isEP B (hdF f) ∧ (20 < hdF f ∧ hdF f < 81) ∧ (0 ≤ B (hdF f) 2 ∧ B (hdF f) 2 ≤ 9) ∧ (B (hdF f) 1 ≠ 2 → 0 ≤ B (hdF f) 3 ∧ B (hdF f) 3 ≤ 3) := by
  obtain ⟨-, ⟨h1, -, h3⟩, -⟩ := h
  have hm : f.2.1.getD f.2.2.1 [] ∈ f.2.1 := by
    rw [List.getD_eq_getElem?_getD, List.getElem?_eq_getElem hk]
    exact List.getElem_mem hk
  have hf : hdF f ∈ f.2.1.flatten := List.mem_flatten.mpr ⟨_, hm, hdE_mem (h1.1 _ hm)⟩
  obtain ⟨g1, g2, -⟩ := h3 _ hf
  have hP := CTX_P hX
  have := hP.1
  have g4 := hP.2.2 _ g2.1 g2.2
  exact ⟨hf, g1, by omega, g4.2.2.2 g1, fun q => g4.2.2.1 (by rcases g1 with w | w | w; exact Or.inl w; exact Or.inr w; exact absurd w q)⟩
/-- its cells in the reference -/
theorem RFR_h {E B : Mem} {t : Int} {N : Mem} {j : Int} {f : RF} (h : RFR E B t N j f) (hk : f.2.2.1 < f.2.1.length) : N 104 (10 * j + N 110 j) = B (hdF f) 2 ∧ N 105 (10 * j + N 110 j) = B (hdF f) 1 ∧ (B (hdF f) 1 ≠ 2 → N 106 (10 * j + N 110 j) = B (hdF f) 3) := by
  obtain ⟨h1, ⟨SL, h2, h3, h4⟩, ⟨h5, h6, h7, h8⟩, h9, h10⟩ := h
  rw [h5]
  exact h2.1.2 _ hk
/-- kind and required of the ENTRY's field, as the reference reads them -/
theorem REF_k {E B : Mem} {t : Int} {N : Mem} {j : Int} {f : RF} {m L : Nat} (hX : CTX E B t m) (hT : REFT E N) (hF : RFR E B t N j f) (hV : FV E B t m L f) (hk : f.2.2.1 < f.2.1.length) (h2 : B (hdF f) 1 ≠ 2) : N 91 (N 102 j) = E 7 (f.1 - 1) ∧ N 90 (12 * N 91 (N 102 j) + 3 * N 106 (10 * j + N 110 j) + 0) = B (hdF f) 7 ∧ (N 90 (12 * N 91 (N 102 j) + 3 * N 106 (10 * j + N 110 j) + 2) = 0 ↔ B (hdF f) 8 = 0) ∧ kO E (E 7 (f.1 - 1)) (B (hdF f) 3) = B (hdF f) 7 := by
  obtain ⟨g1, g2, g3, g4, g5⟩ := FV_h hX hV hk
  have hr := hV.1
  have h91 : N 91 (N 102 j) = E 7 (f.1 - 1) := by rw [hF.1]; exact hT.2.2.2.1 f.1 hr.1 hr.2
  have h106 := (RFR_h hF hk).2.2 h2
  have hty := hF.2.2.2.2 _ g1
  have ho : B (hdF f) 1 = 0 ∨ B (hdF f) 1 = 1 := by rcases g2 with w | w | w; exact Or.inl w; exact Or.inr w; exact absurd w h2
  obtain ⟨y1, y2, y3⟩ := hty.1 ho
  have hb := g5 h2
  have ht4 := hT.2.1.2.2.2.1 (N 102 j)
  rw [h91] at ht4 ⊢
  rw [h106]
  have hh : hasF E (E 7 (f.1 - 1)) (B (hdF f) 3) := by
    apply Classical.byContradiction
    intro q
    have : kO E (E 7 (f.1 - 1)) (B (hdF f) 3) = -1 := by unfold kO; rw [if_neg q]
    omega
  have m7 := hT.1.2.2.2.2.2.2 (E 7 (f.1 - 1)) (B (hdF f) 3) ht4.1 ht4.2 hb.1 hb.2
  have k1 : kO E (E 7 (f.1 - 1)) (B (hdF f) 3) = E 3 (E 7 (f.1 - 1) * 4 + B (hdF f) 3) := by unfold kO; rw [if_pos hh]
  refine ⟨rfl, by rw [Int.add_zero, m7.1, y1, k1], ?_, y1.symm⟩
  rw [m7.2.2, y2]
  unfold rO
  constructor
  · intro q; rw [if_neg (fun w => w.2 q)]
  · intro q
    apply Classical.byContradiction
    intro w
    rw [if_pos ⟨hh, w⟩] at q
    omega
theorem preF_len {B : Mem} : ∀ fs : List RF, (preF B fs).length ≤ 2 * fs.length
  | [] => Nat.le_refl _
  | f :: fs => by
    have := preF_len (B := B) fs
    unfold preF
    simp only [List.length_append, List.length_cons, List.length_nil]
    split <;> simp <;> omega
theorem CD_note {N N' : Mem} {s : SA} {p : List Int} (h : CD N s) (h60 : s.2.2.length ≤ 60) (hp : p.length ≤ 26) (e : ∀ c y : Int, ¬ (c = 115 ∨ c = 116 ∨ (c = 88 ∧ y = 33)) → N' c y = N c y) (e33 : N' 88 33 = (s.2.2.length : Int) + 1) (e115 : ∀ y : Int, N' 115 y = if y = (s.2.2.length : Int) then offP s.2.2 + (p.length : Int) else N 115 y) (e116 : ∀ y : Int, y < offP s.2.2 → N' 116 y = N 116 y) (ep : arL N' 116 (offP s.2.2) p) : CD N' (s.1, s.2.1, s.2.2 ++ [p]) := by
  obtain ⟨⟨a1, a2, a3⟩, ⟨b1, b2⟩, ⟨c1, c2⟩, d1, d2⟩ := h
  refine ⟨⟨by rw [e _ _ (by decide)]; exact a1, arL_eq (fun y => e _ _ (by simp)) a2, a3⟩, ⟨by rw [e _ _ (by decide)]; exact b1, b2⟩, ⟨by rw [e33]; simp, by simp; omega⟩, fun q hq => ?_, fun k hk => ?_⟩
  · rcases List.mem_append.mp hq with hq | hq
    · exact d1 q hq
    · simp at hq; rw [hq]; exact hp
  · simp only [List.length_append, List.length_cons, List.length_nil] at hk
    rw [e115]
    by_cases q : k = s.2.2.length
    · subst q
      rw [if_pos rfl, getD_e, List.take_left' rfl, List.take_of_length_le (by simp)]
      exact ⟨(offP_app _ _).symm, ep⟩
    · obtain ⟨f1, f2⟩ := d2 k (by omega)
      rw [if_neg (by omega), getD_l (by omega), List.take_append_of_le_length (by omega), List.take_append_of_le_length (by omega)]
      refine ⟨f1, fun i hi => ?_⟩
      have o1 := offP_take (L := s.2.2) (k := k) (by omega)
      have o2 : offP s.2.2 = offP (s.2.2.take (k + 1)) + offP (s.2.2.drop (k + 1)) := by
        rw [← offP_apps, List.take_append_drop]
      have o3 := offP_le (s.2.2.drop (k + 1)) (fun p hp => d1 p (List.mem_of_mem_drop hp))
      rw [e116 _ (by omega)]
      exact f2 i hi
set_option maxHeartbeats 4000000 in
theorem k_Mo_note (l : Launch) (n : Nat) (M : Mem) (hn : 117 ≤ n) (E B : Mem) (t : Int) (m : Nat) (hX : CTX E B t m) (s : SA) (h60 : s.2.2.length ≤ 60) (f : RF) (fs : List RF) (hR : RSt E B t M s (f :: fs)) (hV : VAL E B t m (f :: fs)) (hk : f.2.2.1 < f.2.1.length) (hl : fs.length ≤ 12) (hRow : ROW B) : AR l m_Mo_note 3 [.inr 88] n M none (fun M' => (∀ c y : Int, ¬ (c = 115 ∨ c = 116 ∨ (c = 88 ∧ y = 33)) → M' c y = M c y) ∧ CD M' (s.1, s.2.1, s.2.2 ++ [preF B fs ++ [B (hdF f) 2]])) := by
  refine AM_intro (by decide) (Nat.le_of_ble_eq_true rfl) (fun X b0 D hC _ => ?_)
  show AW X b0 D true 0 0 _ n M 0 [some (.inr 88), none, none] []
  obtain ⟨hT, hCD, h17, hFS⟩ := hR
  have hpl := hCD.2.2.2
  have ho := offP_le s.2.2 hpl.1
  have h33 := hCD.2.2.1.1
  have hlv : M 88 17 = (fs.length : Int) + 1 := by rw [h17]; simp
  show AW X b0 D true 0 0 (fx_Q X b0 D true 0 0 (fun r' n' M' => r' = none ∧ n' = n ∧ ((∀ c y : Int, ¬ (c = 115 ∨ c = 116 ∨ (c = 88 ∧ y = 33)) → M' c y = M c y) ∧ CD M' (s.1, s.2.1, s.2.2 ++ [preF B fs ++ [B (hdF f) 2]])))) n M 0 [some (.inr 88), none, none] []
  have tail : ∀ (N : Mem), (∀ c y : Int, c ≠ 116 → N c y = M c y) → (∀ y : Int, y < offP s.2.2 → N 116 y = M 116 y) → arL N 116 (offP s.2.2) (preF B fs ++ [B (hdF f) 2]) → AW X b0 D true 0 0 (fx_Q X b0 D true 0 0 (fun r' n' M' => r' = none ∧ n' = n ∧ ((∀ c y : Int, ¬ (c = 115 ∨ c = 116 ∨ (c = 88 ∧ y = 33)) → M' c y = M c y) ∧ CD M' (s.1, s.2.1, s.2.2 ++ [preF B fs ++ [B (hdF f) 2]])))) n N 95 [some (.inr 88), some (.inl (offP s.2.2 + ((preF B fs ++ [B (hdF f) 2]).length : Int))), some (.inl ((fs.length : Int) + 1))] [] := by
    intro N e1 e2 e3
    have g33 : N 88 33 = (s.2.2.length : Int) := by rw [e1 88 33 (by decide)]; exact h33
    refine A_ald0 hC d_Mo_note_95 ?_
    refine A_getCR (v := 115) hC d_Mo_note_96 fF_Mo_93 ⟨by decide, rfl⟩ ly_88 (by omega) ⟨rfl, by decide⟩ cv_88_34 ?_
    refine A_ald0 hC d_Mo_note_99 ?_
    refine A_getI (kI := 33) hC d_Mo_note_100 fF_Mo_175 ⟨by decide, rfl⟩ rfl ly_88 (by omega) ?_
    refine A_eqi g33 ?_
    refine A_ild1 hC d_Mo_note_103 ?_
    refine A_iast hC d_Mo_note_104 ly_115 (by omega) (by omega) (fun _ => kk_i _) ?_
    refine A_ald0 hC d_Mo_note_105 ?_
    refine A_dup hC d_Mo_note_106 ?_
    refine A_getIE (x := N 88 33) (kI := 33) hC d_Mo_note_107 fF_Mo_175 ⟨by decide, rfl⟩ rfl ly_88 (by omega) (by rw [up_nc (c := 115) (c' := 88) (by decide)]) ?_
    refine A_iconst hC d_Mo_note_110 (by decide) ?_
    refine A_iadd hC d_Mo_note_111 (by omega) ?_
    refine A_putI (kI := 33) hC d_Mo_note_112 fP_Mo_175 ⟨by decide, rfl⟩ rfl ly_88 (by omega) (fun _ => by decide) ?_
    refine A_vret hC d_Mo_note_115 rfl (Nat.le_refl _) (Nat.le_refl _) ?_
    have hpf := preF_len (B := B) fs
    refine ⟨rfl, rfl, fun c y q => ?_, CD_note hCD h60 (by simp; omega) (fun c y q => ?_) ?_ (fun y => ?_) (fun y hy => ?_) ?_⟩
    · rw [up_nc_or (by omega), up_nc_or (by omega), e1 c y (by omega)]
    · rw [up_nc_or (by omega), up_nc_or (by omega), e1 c y (by omega)]
    · rw [up_eq, g33]
    · rw [up_nc (by decide)]
      unfold up
      by_cases q : y = (s.2.2.length : Int)
      · rw [if_pos ⟨rfl, q⟩, if_pos q]
      · rw [if_neg (fun w => q w.2), if_neg q, e1 115 y (by decide)]
    · rw [up_nc (by decide), up_nc (by decide)]; exact e2 y hy
    · exact arL_eq (fun y => by rw [up_nc (by decide), up_nc (by decide)]) e3
  have loop : ∀ (k : Nat) (U D' : List RF) (N : Mem), U.length = k → f :: fs = U ++ D' → D'.length ≤ fs.length → (∀ c y : Int, c ≠ 116 → N c y = M c y) → (∀ y : Int, y < offP s.2.2 → N 116 y = M 116 y) → arL N 116 (offP s.2.2) (preF B D') → AW X b0 D true 0 0 (fx_Q X b0 D true 0 0 (fun r' n' M' => r' = none ∧ n' = n ∧ ((∀ c y : Int, ¬ (c = 115 ∨ c = 116 ∨ (c = 88 ∧ y = 33)) → M' c y = M c y) ∧ CD M' (s.1, s.2.1, s.2.2 ++ [preF B fs ++ [B (hdF f) 2]])))) n N 25 [some (.inr 88), some (.inl (offP s.2.2 + ((preF B D').length : Int))), some (.inl ((D'.length : Int)))] [] := by
    intro k
    induction k with
    | zero =>
      intro U D' N hU hsp hle e1 e2 e3
      have : U = [] := List.length_eq_zero_iff.mp hU
      subst this
      have := congrArg List.length hsp
      simp at this
      omega
    | succ k ih =>
      intro U D' N hU hsp hle e1 e2 e3
      obtain ⟨U', g, rfl⟩ : ∃ U' g, U = U' ++ [g] := by
        rcases List.eq_nil_or_concat U with w | ⟨a, b, w⟩
        · rw [w] at hU; simp at hU
        · exact ⟨a, b, by rw [w, List.concat_eq_append]⟩
      have hsp2 : f :: fs = U' ++ g :: D' := by rw [hsp]; simp
      have hg := RFS_get (by rw [← hsp2]; exact hFS : RFS E B t M (U' ++ g :: D'))
      have hv := VAL_get (by rw [← hsp2]; exact hV : VAL E B t m (U' ++ g :: D'))
      have hlen := congrArg List.length hsp2
      simp at hlen
      have hpf := preF_len (B := B) D'
      have hkg : g.2.2.1 < g.2.1.length := by
        cases U' with
        | nil => simp at hsp2; rw [← hsp2.1]; exact hk
        | cons a U' => exact (hv.2 (by simp)).1
      have hh := RFR_h hg hkg
      have g110 : N 110 (D'.length : Int) = (g.2.2.1 : Int) := by rw [e1 110 _ (by decide)]; exact hg.2.2.1.1
      have ha10 := hg.2.2.2.1
      have g104 : N 104 (10 * (D'.length : Int) + N 110 (D'.length : Int)) = B (hdF g) 2 := by rw [e1 110 _ (by decide), e1 104 _ (by decide)]; exact hh.1
      have g17 : N 88 17 = (fs.length : Int) + 1 := by rw [e1 88 17 (by decide)]; exact hlv
      have wr : ∀ v : Int, ∀ c y : Int, c ≠ 116 → up N 116 (offP s.2.2 + ((preF B D').length : Int)) v c y = M c y := fun v c y hc => by rw [up_nc hc]; exact e1 c y hc
      refine A_ild2 hC d_Mo_note_25 ?_
      refine A_ald0 hC d_Mo_note_26 ?_
      refine A_getI (kI := 17) hC d_Mo_note_27 fF_Mo_157 ⟨by decide, rfl⟩ rfl ly_88 (by omega) ?_
      refine A_icmpge (tgt := 95) hC d_Mo_note_30 (by decide) (fun h30 => ?_) (fun h30 => ?_)
      · exact absurd h30 (by omega)
      · refine A_ald0 hC d_Mo_note_33 ?_
        refine A_getCR (v := 116) hC d_Mo_note_34 fF_Mo_96 ⟨by decide, rfl⟩ ly_88 (by omega) ⟨rfl, by decide⟩ cv_88_35 ?_
        refine A_ild1 hC d_Mo_note_37 ?_
        refine A_ald0 hC d_Mo_note_38 ?_
        refine A_getCR (v := 104) hC d_Mo_note_39 fF_Mo_60 ⟨by decide, rfl⟩ ly_88 (by omega) ⟨rfl, by decide⟩ cv_88_20 ?_
        refine A_ald0 hC d_Mo_note_42 ?_
        refine A_ild2 hC d_Mo_note_43 ?_
        refine A_VF1 (as := [.inl ((D'.length : Int))]) hC d_Mo_note_44 mv_Mo_entry lk_Mo_172 (by decide) sel_Mo_entry hq_Mo ly_88 (by omega) (k_Mo_entry l n N hn (D'.length : Int) (by omega) (by omega)) rfl rfl (Nat.le_of_ble_eq_true rfl) ⟨Nat.zero_le _, Nat.zero_le _⟩ rfl ?_
        refine A_iald hC d_Mo_note_47 ly_104 (by omega) (by omega) ?_
        refine A_eqi g104 ?_
        refine A_iast hC d_Mo_note_48 ly_116 (by omega) (by omega) (fun _ => kk_i _) ?_
        refine A_iinc1 hC d_Mo_note_49 (by omega) ?_
        refine A_ild2 hC d_Mo_note_52 ?_
        refine A_iconst hC d_Mo_note_53 (by decide) ?_
        refine A_iadd hC d_Mo_note_54 (by omega) ?_
        refine A_ald0 hC d_Mo_note_55 ?_
        refine A_getIE (x := N 88 17) (kI := 17) hC d_Mo_note_56 fF_Mo_157 ⟨by decide, rfl⟩ rfl ly_88 (by omega) (by rw [up_nc (c := 116) (c' := 88) (by decide)]) ?_
        refine A_icmpge (tgt := 89) hC d_Mo_note_59 (by decide) (fun h59 => ?_) (fun h59 => ?_)
        · have hU0' : U'.length = 0 := by omega
          refine A_iinc2 hC d_Mo_note_89 (by omega) ?_
          refine A_goto (tgt := 25) hC d_Mo_note_92 (by decide) ?_
          refine A_ild2 hC d_Mo_note_25 ?_
          refine A_ald0 hC d_Mo_note_26 ?_
          refine A_getIE (x := N 88 17) (kI := 17) hC d_Mo_note_27 fF_Mo_157 ⟨by decide, rfl⟩ rfl ly_88 (by omega) (by rw [up_nc (c := 116) (c' := 88) (by decide)]) ?_
          refine A_icmpge (tgt := 95) hC d_Mo_note_30 (by decide) (fun h30 => ?_) (fun h30 => ?_)
          · have hU0 : U' = [] := List.length_eq_zero_iff.mp (by omega)
            subst hU0
            simp at hsp2
            obtain ⟨rfl, rfl⟩ := hsp2
            have := tail _ (wr (B (hdF f) 2)) (fun y hy => by rw [up_nk (by omega)]; exact e2 y hy) (arL_snoc (v := B (hdF f) 2) e3)
            rw [len1] at this
            exact this
          · exact absurd h30 (by rw [g17]; omega)
        · have hU1 : U' ≠ [] := fun w => by rw [w] at hlen; simp at hlen; omega
          have hpar := hv.2 hU1
          have h9b := hRow.2.1 (celE B g.1 (hdF g))
          have himr : g.2.2.2.1 = -1 ∨ (0 ≤ g.2.2.2.1 ∧ g.2.2.2.1 < 4) := by rcases hpar.2.2 with w | w <;> omega
          have hFX : RFR E B t (up N 116 (offP s.2.2 + ((preF B D').length : Int)) (B (hdF g) 2)) (D'.length : Int) g := RFR_eq (fun c y c1 c2 => wr (B (hdF g) 2) c y (by omega)) hg
          have hTX : REFT E (up N 116 (offP s.2.2 + ((preF B D').length : Int)) (B (hdF g) 2)) := REFT_f (fun c y q => wr (B (hdF g) 2) c y (by omega)) hT
          have hkd := REF_k hX hTX hFX hv.1 hkg (by rw [hpar.2.1]; decide)
          have hMB := hTX.2.1
          have h110x := hFX.2.2.1.1
          have h111 := hFX.2.2.1.2.1
          have hr102 : 0 ≤ (up N 116 (offP s.2.2 + ((preF B D').length : Int)) (B (hdF g) 2)) 102 (D'.length : Int) ∧ (up N 116 (offP s.2.2 + ((preF B D').length : Int)) (B (hdF g) 2)) 102 (D'.length : Int) ≤ 12 := by rw [hFX.1]; have := hv.1.1; omega
          have hw : 0 ≤ (up N 116 (offP s.2.2 + ((preF B D').length : Int)) (B (hdF g) 2)) 106 (10 * (D'.length : Int) + (up N 116 (offP s.2.2 + ((preF B D').length : Int)) (B (hdF g) 2)) 110 (D'.length : Int)) ∧ (up N 116 (offP s.2.2 + ((preF B D').length : Int)) (B (hdF g) 2)) 106 (10 * (D'.length : Int) + (up N 116 (offP s.2.2 + ((preF B D').length : Int)) (B (hdF g) 2)) 110 (D'.length : Int)) ≤ 3 := by rw [(RFR_h hFX hkg).2.2 (by rw [hpar.2.1]; decide)]; exact (FV_h hX hv.1 hkg).2.2.2.2 (by rw [hpar.2.1]; decide)
          refine A_ald0 hC d_Mo_note_62 ?_
          refine A_ild2 hC d_Mo_note_63 ?_
          refine A_VF1 (as := [.inl ((D'.length : Int))]) hC d_Mo_note_64 mv_Mo_kindAt lk_Mo_178 (by decide) sel_Mo_kindAt hq_Mo ly_88 (by omega) (k_Mo_kindAt l n (up N 116 (offP s.2.2 + ((preF B D').length : Int)) (B (hdF g) 2)) hn hMB (D'.length : Int) (by omega) (by rw [h110x]; omega) hr102 hw) rfl rfl (Nat.le_of_ble_eq_true rfl) ⟨Nat.zero_le _, Nat.zero_le _⟩ rfl ?_
          refine A_eqi hkd.2.1 ?_
          refine A_iconst hC d_Mo_note_67 (by decide) ?_
          refine A_icmpne (tgt := 89) hC d_Mo_note_68 (by decide) (fun h68 => ?_) (fun h68 => ?_)
          · have h68' : ¬ B (hdF g) 7 = 2 := h68
            refine A_iinc2 hC d_Mo_note_89 (by omega) ?_
            refine A_goto (tgt := 25) hC d_Mo_note_92 (by decide) ?_
            have hpre : preF B (g :: D') = preF B D' ++ [B (hdF g) 2] := by
              show preF B D' ++ [B (hdF g) 2] ++ (if B (hdF g) 7 = 2 then [10 + g.2.2.2.1] else []) = _
              rw [if_neg h68', List.append_nil]
            have := ih U' (g :: D') _ (by simp at hU; omega) hsp2 (by simp; omega) (wr (B (hdF g) 2)) (fun y hy => by rw [up_nk (by omega)]; exact e2 y hy) (by rw [hpre]; exact arL_snoc e3)
            rw [hpre, len1] at this
            exact this
          · have h68' : B (hdF g) 7 = 2 := h68
            refine A_ald0 hC d_Mo_note_71 ?_
            refine A_getCR (v := 116) hC d_Mo_note_72 fF_Mo_96 ⟨by decide, rfl⟩ ly_88 (by omega) ⟨rfl, by decide⟩ cv_88_35 ?_
            refine A_ild1 hC d_Mo_note_75 ?_
            refine A_bipush hC d_Mo_note_76 (by decide) (by decide) ?_
            refine A_ald0 hC d_Mo_note_78 ?_
            refine A_getCR (v := 111) hC d_Mo_note_79 fF_Mo_81 ⟨by decide, rfl⟩ ly_88 (by omega) ⟨rfl, by decide⟩ cv_88_27 ?_
            refine A_ild2 hC d_Mo_note_82 ?_
            refine A_ialdE (x := N 111 ((D'.length : Int))) hC d_Mo_note_83 ly_111 (by omega) (by omega) (by rw [up_nc (c := 116) (c' := 111) (by decide)]) ?_
            refine A_eqi (show _ = g.2.2.2.1 by first | exact h111 | (rw [up_nc (by decide)]; exact h111)) ?_
            refine A_iadd hC d_Mo_note_84 (by omega) ?_
            refine A_iast hC d_Mo_note_85 ly_116 (by omega) (by omega) (fun _ => kk_i _) ?_
            refine A_iinc1 hC d_Mo_note_86 (by omega) ?_
            refine A_iinc2 hC d_Mo_note_89 (by omega) ?_
            refine A_goto (tgt := 25) hC d_Mo_note_92 (by decide) ?_
            have hpre : preF B (g :: D') = preF B D' ++ [B (hdF g) 2] ++ [10 + g.2.2.2.1] := by
              show preF B D' ++ [B (hdF g) 2] ++ (if B (hdF g) 7 = 2 then [10 + g.2.2.2.1] else []) = _
              rw [if_pos h68']
            have e4 := arL_snoc (v := B (hdF g) 2) e3
            have e5 := arL_snoc (v := 10 + g.2.2.2.1) e4
            rw [len1] at e5
            have := ih U' (g :: D') (up (up N 116 (offP s.2.2 + ((preF B D').length : Int)) (B (hdF g) 2)) 116 (offP s.2.2 + ((preF B D').length : Int) + 1) (10 + g.2.2.2.1)) (by simp at hU; omega) hsp2 (by simp; omega) (fun c y hc => by rw [up_nc hc]; exact wr (B (hdF g) 2) c y hc) (fun y hy => by rw [up_nk (by omega), up_nk (by omega)]; exact e2 y hy) (by rw [hpre]; exact e5)
            rw [hpre, len1, len1] at this
            exact this
  refine A_ald0 hC d_Mo_note_0 ?_
  refine A_getI (kI := 33) hC d_Mo_note_1 fF_Mo_175 ⟨by decide, rfl⟩ rfl ly_88 (by omega) ?_
  refine A_ifne (tgt := 11) hC d_Mo_note_4 (by decide) (fun h4 => ?_) (fun h4 => ?_)
  · refine A_ald0 hC d_Mo_note_11 ?_
    refine A_getCR (v := 115) hC d_Mo_note_12 fF_Mo_93 ⟨by decide, rfl⟩ ly_88 (by omega) ⟨rfl, by decide⟩ cv_88_34 ?_
    refine A_ald0 hC d_Mo_note_15 ?_
    refine A_getI (kI := 33) hC d_Mo_note_16 fF_Mo_175 ⟨by decide, rfl⟩ rfl ly_88 (by omega) ?_
    refine A_iconst hC d_Mo_note_19 (by decide) ?_
    refine A_isub hC d_Mo_note_20 (by omega) ?_
    refine A_iald hC d_Mo_note_21 ly_115 (by omega) (by omega) ?_
    refine A_ist1 hC d_Mo_note_22 ?_
    refine A_iconst hC d_Mo_note_23 (by decide) ?_
    refine A_ist2 hC d_Mo_note_24 ?_
    have := loop (f :: fs).length (f :: fs) [] M rfl (by simp) (by simp) (fun _ _ _ => rfl) (fun _ _ => rfl) (fun k hk => absurd hk (Nat.not_lt_zero k))
    have hen := (hpl.2 (s.2.2.length - 1) (by omega)).1
    rw [show s.2.2.length - 1 + 1 = s.2.2.length by omega, List.take_of_length_le (Nat.le_refl _)] at hen
    rw [show ((s.2.2.length - 1 : Nat) : Int) = M 88 33 - 1 by omega] at hen
    have e0 : offP s.2.2 + ((preF B []).length : Int) = M 115 (M 88 33 - 1) := by rw [hen]; exact Int.add_zero _
    rw [e0] at this
    exact this
  · have hL0 : s.2.2 = [] := List.length_eq_zero_iff.mp (by omega)
    refine A_iconst hC d_Mo_note_7 (by decide) ?_
    refine A_goto (tgt := 22) hC d_Mo_note_8 (by decide) ?_
    refine A_ist1 hC d_Mo_note_22 ?_
    refine A_iconst hC d_Mo_note_23 (by decide) ?_
    refine A_ist2 hC d_Mo_note_24 ?_
    have := loop (f :: fs).length (f :: fs) [] M rfl (by simp) (by simp) (fun _ _ _ => rfl) (fun _ _ => rfl) (fun k hk => absurd hk (Nat.not_lt_zero k))
    have e0 : offP s.2.2 + ((preF B []).length : Int) = 0 := by rw [hL0]; rfl
    rw [e0] at this
    exact this
