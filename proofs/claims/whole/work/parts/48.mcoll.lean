-- ===== the reference: collectOne
/-- the texts E were checked with the type t: m tokens, B has the plan -/
def CTX (E B : Mem) (t : Int) (m : Nat) : Prop := TXT E ∧ SC E ∧ PS E t m B ∧ m ≤ 60 ∧ tS E t m = [] ∧ (∀ i : Nat, i < m → tS E t i ≠ []) ∧ gd (E 13) (E 12) 0 = 1 ∧ CK E t 0 = -1
theorem CTX_I {E B : Mem} {t : Int} {m : Nat} (h : CTX E B t m) {j : Nat} (hj : j < m) : 0 ≤ tI E t j ∧ tI E t j ≤ 63 := tI_rg h.1 h.2.2.2.2.2.2.1 h.2.2.2.2.2.2.2 h.2.2.2.1 h.2.2.2.2.2.1 hj
theorem CTX_P {E B : Mem} {t : Int} {m : Nat} (h : CTX E B t m) : PLN B ((m : Int) + 1) := PLN_of h.1 h.2.2.1 h.2.2.2.1 h.2.2.2.2.2.1 h.2.2.2.2.1 (fun j hj => CTX_I h hj)
theorem CTX_k {E B : Mem} {t : Int} {m : Nat} (h : CTX E B t m) {j : Nat} (hj : j < m) : tokP (E 13 (tI E t j)) (E 14 (tI E t j)) (E 15 (tI E t j)) := by
  have := CTX_I h hj
  exact h.1.2 _ this.1 (by omega)
theorem CTX_r {E B : Mem} {t : Int} {m : Nat} (h : CTX E B t m) {j : Nat} (hj : j < m) : rgtP E (topF (tS E t j)).1 (tI E t j) (tU E t j) := by
  obtain ⟨h1, -⟩ := tGOK h.1 h.2.2.2.2.2.2.1 h.2.2.2.2.2.2.2 h.2.2.2.1 h.2.2.2.2.2.1 j (by omega)
  obtain ⟨x, R, hx⟩ := ne_cons (h.2.2.2.2.2.1 j hj)
  have hI := CTX_I h hj
  rw [hx]
  exact Classical.not_not.mp (fun q => by
    have := CK_bad hx (fun _ => q)
    omega)
theorem CTX_c {E B : Mem} {t : Int} {m : Nat} (h : CTX E B t m) {q : Nat} (hq : q ≤ m) (ho : opQ E t q) : ∃ x R c, CLS E t m q x R c := CLS_of h.2.2.2.2.2.1 h.2.2.2.2.1 hq ho
theorem CTX_6 {E B : Mem} {t : Int} {m : Nat} (h : CTX E B t m) {q : Nat} (hq : q ≤ m) : B (20 + (q : Int)) 6 = clo E t m q := PS_6 h.2.2.1 h.2.2.2.2.2.1 h.2.2.2.2.1 hq
theorem tS_ty {E : Mem} {t : Int} {k : Nat} {x : Fr} {R : List Fr} (h : tS E t (k + 1) = x :: R) (hx : x.2.2 = (k : Int) + 1) : x.1 = tyP E (topF (tS E t k)).1 (tI E t k) := by
  rcases tS_sd (k + 1) [] x R h with ⟨rfl, -⟩ | ⟨k', h1, h2, -, h3, -⟩
  · have : (0 : Int) = (k : Int) + 1 := hx
    omega
  · have : k' = k := by omega
    rw [this] at h3
    exact h3
theorem tS_len (E : Mem) (t : Int) : ∀ j : Nat, (tS E t j).length ≤ j + 1
  | 0 => Nat.le_refl 1
  | j + 1 => by
    have h := tS_len E t j
    by_cases o6 : E 13 (tI E t j) = 6
    · rw [tS_end o6, List.length_tail]; omega
    · by_cases op : opnP (E 13 (tI E t j)) ∨ E 13 (tI E t j) = 5
      · obtain ⟨x, hx, -⟩ := tS_push op
        rw [hx, List.length_cons]; omega
      · rw [tS_same op o6]; omega
def arK (N : Mem) : List Fr → Prop
  | [] => True
  | a :: st => N 100 (st.length : Int) = a.2.1 ∧ arK N st
theorem arK_eq {N N' : Mem} : ∀ (st : List Fr), (∀ y : Int, 0 ≤ y → y < (st.length : Int) → N' 100 y = N 100 y) → arK N st → arK N' st
  | [], _, _ => trivial
  | a :: st, h, ⟨h1, h2⟩ => ⟨by rw [h _ (by omega) (by simp only [List.length_cons]; omega)]; exact h1, arK_eq st (fun y y1 y2 => h y y1 (by simp only [List.length_cons]; omega)) h2⟩
theorem arK_en {N : Mem} {st : List Fr} {a : Fr} {z b : Int} (hz : N 88 13 = (st.length : Int)) (ha : a.2.1 = b) (h : arK N st) : arK (up (up (up N 99 (N 88 13) z) 100 (N 88 13) b) 88 13 (N 88 13 + 1)) (a :: st) := by
  refine ⟨?_, arK_eq st (fun y y1 y2 => ?_) h⟩
  · rw [up_nc (by decide), hz, up_eq]; exact ha.symm
  · rw [up_nc (by decide), up_nk (by omega), up_nc (by decide)]
theorem RL_eq {B : Mem} {tk : Int → Int} {N N' : Mem} {j : Int} {es : List (List Int)} {SL : List (Int × Nat)} (e : ∀ c y : Int, 103 ≤ c → c ≤ 109 → N' c y = N c y) (h : RL B tk N j es SL) : RL B tk N' j es SL := by
  obtain ⟨⟨h1, h2⟩, h3, h4⟩ := h
  refine ⟨⟨by rw [e _ _ (by decide) (by decide)]; exact h1, fun k hk => ?_⟩, by rw [e _ _ (by decide) (by decide)]; exact h3, fun a ha => ?_⟩
  · rw [e 104 _ (by decide) (by decide), e 105 _ (by decide) (by decide), e 106 _ (by decide) (by decide)]
    exact h2 k hk
  · rw [e 108 _ (by decide) (by decide), e 109 _ (by decide) (by decide)]
    exact h4 a ha
theorem fC_en {j : Int} {N : Mem} {z b : Int} : fC j N (up (up (up N 99 (N 88 13) z) 100 (N 88 13) b) 88 13 (N 88 13 + 1)) := fun c y q => by rw [up_nc_or (by omega), up_nc (by omega), up_nc (by omega)]
/-- what collecting reads of the reference's tables -/
def RT (E N : Mem) : Prop := (∀ i : Int, N 96 i = E 13 i) ∧ (∀ i : Int, N 97 i = E 14 i) ∧ (∀ i : Int, N 98 i = E 15 i) ∧ ∀ i : Int, N 94 i = E 16 i
theorem RT_f {E N N' : Mem} {j : Int} (h : RT E N) (f : fC j N N') : RT E N' := ⟨fun i => by rw [f 96 i (by omega)]; exact h.1 i, fun i => by rw [f 97 i (by omega)]; exact h.2.1 i, fun i => by rw [f 98 i (by omega)]; exact h.2.2.1 i, fun i => by rw [f 94 i (by omega)]; exact h.2.2.2 i⟩
/-- what the type of the row says of a step that was collected -/
def TYC (E B : Mem) (ty c : Int) : Prop := (B c 1 = 0 ∨ B c 1 = 1 → B c 7 = kO E ty (B c 3) ∧ B c 8 = rO E ty (B c 3) ∧ 0 ≤ B c 7) ∧ (B c 1 = 1 → B c 5 = tO E ty (B c 3) ∧ (B c 7 = 1 ∨ B c 7 = 2)) ∧ (B c 1 = 0 → B c 7 = 0)
abbrev TK (E : Mem) (t : Int) (c : Int) : Int := tI E t (c - 20).toNat
set_option maxHeartbeats 4000000 in
theorem k_Mo_collectOne (l : Launch) (n : Nat) (M : Mem) (hn : 117 ≤ n) (E B : Mem) (t : Int) (m : Nat) (hX : CTX E B t m) (hT : RT E M) (j ty : Int) (hj : 0 ≤ j ∧ j ≤ 13) (hrow : 0 ≤ M 102 j ∧ M 102 j ≤ 12) (hty : M 91 (M 102 j) = ty) (p c0 : Nat) (x : Fr) (R : List Fr) (hp : CLS E t m p x R c0) (hxb : x.2.1 = -1) (hxt : x.1 = 5 ∨ x.1 = ty) (es : List (List Int)) (SL : List (Int × Nat)) (hRL : RL B (TK E t) M j es SL) (hSL : SLR B es SL) (hEP : EPC B es) (done : List Int) (hdn : inP ((m : Int) + 1) done) (hd4 : ∀ c : Int, inR B done c → ¬ (20 + (p : Int) < c ∧ c - 20 < B (20 + (p : Int)) 6)) (hes : ∀ c ∈ es.flatten, isEP B c ∧ inR B done c) : AX l m_Mo_collectOne 3 [.inr 88, .inl j, .inl (tI E t p)] n M (fun v N' => ((cI B ty (B (20 + (p : Int)) 6) 61 (20 + (p : Int) - 20 + 1) es = none → v = 0) ∧ ∀ es', cI B ty (B (20 + (p : Int)) 6) 61 (20 + (p : Int) - 20 + 1) es = some es' → v = 1 ∧ (∃ SL', RL B (TK E t) N' j es' SL' ∧ SLR B es' SL') ∧ ∀ c ∈ es'.flatten, c ∈ es.flatten ∨ TYC E B ty c) ∧ (v = 0 ∨ v = 1) ∧ fC j M N') := by
  refine AM_intro (by decide) (Nat.le_of_ble_eq_true rfl) (fun X b0 D hC _ => ?_)
  show AW X b0 D true 0 0 _ n M 0 [some (.inr 88), some (.inl j), some (.inl (tI E t p)), none, none, none] []
  have hPl := CTX_P hX
  have hm60 := hX.2.2.2.1
  have hc0m := hp.2.2.1
  have hpc := hp.2.1
  have h6p : B (20 + (p : Int)) 6 = (c0 : Int) + 1 := by rw [CTX_6 hX (by omega)]; exact hp.2.2.2.2.2.2.2
  generalize hRR : cI B ty (B (20 + (p : Int)) 6) 61 (20 + (p : Int) - 20 + 1) es = RR
  show AW X b0 D true 0 0 (fx_Q X b0 D true 0 0 (fun r' n' M' => n' = n ∧ ∃ v : Int, r' = some (.inl v) ∧ (((RR = none → v = 0) ∧ ∀ es', RR = some es' → v = 1 ∧ (∃ SL', RL B (TK E t) M' j es' SL' ∧ SLR B es' SL') ∧ ∀ c ∈ es'.flatten, c ∈ es.flatten ∨ TYC E B ty c) ∧ (v = 0 ∨ v = 1) ∧ fC j M M'))) n M 0 [some (.inr 88), some (.inl j), some (.inl (tI E t p)), none, none, none] []
  have loop : ∀ (f jj : Nat) (A : List Fr) (N : Mem) (es2 : List (List Int)) (SL2 : List (Int × Nat)) (x4 x5 : Option AV), p ≤ jj → jj ≤ c0 → c0 + 1 ≤ f + jj → tS E t jj = A ++ x :: R → N 88 13 = (A.length : Int) + 1 → arK N (A ++ [x]) → (∀ a ∈ A ++ [x], a.1 = 5 ∨ a.1 = ty) → (∀ c ∈ es2.flatten, isEP B c ∧ (inR B done c ∨ (20 + (p : Int) < c ∧ B c 6 < (jj : Int) + 1 ∧ c - 20 < B (20 + (p : Int)) 6))) → EPC B es2 → RL B (TK E t) N j es2 SL2 → SLR B es2 SL2 → (∀ c ∈ es2.flatten, c ∈ es.flatten ∨ TYC E B ty c) → fC j M N → RR = cI B ty (B (20 + (p : Int)) 6) f ((jj : Int) + 1) es2 → AW X b0 D true 0 0 (fx_Q X b0 D true 0 0 (fun r' n' M' => n' = n ∧ ∃ v : Int, r' = some (.inl v) ∧ (((RR = none → v = 0) ∧ ∀ es', RR = some es' → v = 1 ∧ (∃ SL', RL B (TK E t) M' j es' SL' ∧ SLR B es' SL') ∧ ∀ c ∈ es'.flatten, c ∈ es.flatten ∨ TYC E B ty c) ∧ (v = 0 ∨ v = 1) ∧ fC j M M'))) n N 13 [some (.inr 88), some (.inl j), some (.inl (tI E t p)), some (.inl (tI E t jj)), x4, x5] [] := by
    intro f
    induction f with
    | zero => intro jj A N es2 SL2 x4 x5 h1 h2 h3; omega
    | succ f ih =>
      intro jj A N es2 SL2 x4 x5 h1 h2 h3 hS hz har hAt hin hEP2 hRL2 hSL2 hTY hf hq
      have hjm : jj < m := by omega
      have hI := CTX_I hX hjm
      have hk := CTX_k hX hjm
      have hT2 := RT_f hT hf
      have hst := hX.2.2.1.2.2.1 jj hjm
      have s6 := CTX_6 hX (q := jj + 1) (by omega)
      have e20 : (20 : Int) + ((jj : Int) + 1) = 20 + ((jj + 1 : Nat) : Int) := by omega
      have e16 : ∀ y : Int, B 16 y = E 16 y := fun y => hX.2.2.1.2.1 16 y (by decide)
      have g91 : N 91 (N 102 j) = ty := by rw [hf 102 j (by omega), hf 91 _ (by omega)]; exact hty
      have g102 : 0 ≤ N 102 j ∧ N 102 j ≤ 12 := by rw [hf 102 j (by omega)]; exact hrow
      have hAl : A.length ≤ 60 := by
        have h5 := congrArg List.length hS
        have h6 := tS_len E t jj
        simp at h5
        omega
      have htop : (topF (tS E t jj)).1 = 5 ∨ (topF (tS E t jj)).1 = ty := by
        rw [hS]
        cases A with
        | nil => exact hAt x (by simp)
        | cons a A => exact hAt a (by simp)
      unfold cI at hq
      have fin : jj = c0 → A = [] := fun z => by
        have h5 := hp.2.2.2.2.1
        rw [← z, hS] at h5
        have := congrArg List.length h5
        simp at this
        exact this
      have flr : ∀ c ∈ es2.flatten, 20 < c ∧ c < 20 + ((m : Int) + 1) := fun c hc => by
        rcases (hin c hc).2 with w | w
        · exact inR_rg hPl hdn w
        · omega
      have flP : ∀ c ∈ es2.flatten, 0 ≤ B c 2 ∧ B c 2 ≤ 9 := fun c hc => (hPl.2.2 c (flr c hc).1 (flr c hc).2).2.2.2 (hin c hc).1
      have hl10 := nm_len hEP2 flP
      have hl60 := fl_len hPl hEP2.2.1 flr
      have hne2 := hEP2.1
      have mid : ∀ b : Int, (E 13 (tI E t jj) = 3 → (b = 1 ↔ ty = E 14 (tI E t jj))) → (E 13 (tI E t jj) = 4 → (b = 1 ↔ B 16 (E 14 (tI E t jj)) = E 15 (tI E t jj))) → (b = 0 ∨ b = 1) → AW X b0 D true 0 0 (fx_Q X b0 D true 0 0 (fun r' n' M' => n' = n ∧ ∃ v : Int, r' = some (.inl v) ∧ (((RR = none → v = 0) ∧ ∀ es', RR = some es' → v = 1 ∧ (∃ SL', RL B (TK E t) M' j es' SL' ∧ SLR B es' SL') ∧ ∀ c ∈ es'.flatten, c ∈ es.flatten ∨ TYC E B ty c) ∧ (v = 0 ∨ v = 1) ∧ fC j M M'))) n N 89 [some (.inr 88), some (.inl j), some (.inl (tI E t p)), some (.inl (tI E t jj)), some (.inl (E 13 (tI E t jj))), x5] [.inl b] := by
        intro b hb3 hb4 hb
        have htypes : E 13 (tI E t jj) = 0 ∨ E 13 (tI E t jj) = 1 → TYC E B ty (20 + ((jj : Int) + 1)) := fun o => by
          have hr := CTX_r hX hjm
          have hk5 : ∀ g : Int, kO E 5 g = -1 := fun g => by
            unfold kO
            rw [if_neg]
            have := hX.2.1.2.1
            omega
          have ht : (topF (tS E t jj)).1 = ty := by
            rcases htop with q | q
            · exfalso
              rw [q] at hr
              have := hk5 (E 15 (tI E t jj))
              rcases o with o | o
              · have := hr.1 o; omega
              · have := hr.2.1 o; omega
            · exact q
          have h78 := hst.2.2.2.2.2.2 o
          have h5 := hst.2.2.2.2.1
          rw [ht] at h78 h5 hr
          unfold TYC
          rw [hst.1, hst.2.2.1, h78.1, h78.2, h5]
          refine ⟨fun _ => ⟨rfl, rfl, ?_⟩, fun o1 => ⟨?_, ?_⟩, fun o0 => hr.1 o0⟩
          · rcases o with o | o
            · rw [hr.1 o]; exact Int.le_refl _
            · rcases hr.2.1 o with q | q <;> rw [q] <;> decide
          · unfold tyP
            rw [if_neg (by omega), if_pos o1]
          · exact hr.2.1 o1
        have hEv : E 13 (tI E t jj) = 0 ∨ E 13 (tI E t jj) = 1 ∨ E 13 (tI E t jj) = 2 → TYC E B ty (20 + ((jj : Int) + 1)) := fun o => by
          by_cases q : E 13 (tI E t jj) = 2
          · unfold TYC
            rw [hst.1]
            exact ⟨fun w => by omega, fun w => by omega, fun w => by omega⟩
          · exact htypes (by omega)
        have htk : B (20 + ((jj : Int) + 1)) 1 = 1 → tI E t jj + 1 = TK E t (20 + ((jj : Int) + 1)) := fun o => by
          rw [hst.1] at o
          show _ = tI E t (20 + ((jj : Int) + 1) - 20).toNat
          rw [show (20 + ((jj : Int) + 1) - 20).toNat = jj + 1 by omega, tI_s]
          unfold nxI
          rw [if_neg (by omega), if_neg (by omega)]
        have ent : (E 13 (tI E t jj) = 0 ∨ E 13 (tI E t jj) = 1 ∨ E 13 (tI E t jj) = 2) → RR = (match enP B (20 + ((jj : Int) + 1)) es2 with | none => none | some es' => cI B ty (B (20 + (p : Int)) 6) f (nxC B ty ((jj : Int) + 1)) es') := fun o => by
          have hne6 : jj ≠ c0 := fun z => by have := hp.2.2.2.2.2.1; rw [← z] at this; omega
          rw [hq, if_neg (by omega), if_pos (by unfold isEP; rw [hst.1]; exact o)]
          cases enP B (20 + ((jj : Int) + 1)) es2 <;> rfl
        have b60 : E 13 (tI E t jj) = 0 ∨ E 13 (tI E t jj) = 2 → B (20 + ((jj : Int) + 1)) 6 = (jj : Int) + 1 := fun o => by
          have := (hPl.2.2 (20 + ((jj : Int) + 1)) (by omega) (by omega)).2.1 (by rw [hst.1]; exact o)
          omega
        have non : ¬ (E 13 (tI E t jj) = 0 ∨ E 13 (tI E t jj) = 1 ∨ E 13 (tI E t jj) = 2) → jj ≠ c0 → RR = cI B ty (B (20 + (p : Int)) 6) f (nxC B ty ((jj : Int) + 1)) es2 := fun o z => by
          rw [hq, if_neg (by omega), if_neg (by unfold isEP; rw [hst.1]; exact o)]
        have nx1 : ¬ E 13 (tI E t jj) = 1 → (E 13 (tI E t jj) = 3 → ty = E 14 (tI E t jj)) → (E 13 (tI E t jj) = 4 → B 16 (E 14 (tI E t jj)) = E 15 (tI E t jj)) → nxC B ty ((jj : Int) + 1) = ((jj + 1 : Nat) : Int) + 1 := fun n1 n3 n4 => by
          unfold nxC pasP
          rw [hst.1, hst.2.1, hst.2.2.1, if_neg]
          · omega
          · rintro (w | w | w)
            · exact n1 w
            · exact w.2 (n3 w.1).symm
            · exact w.2 (n4 w.1)
        have bnd : (E 13 (tI E t jj) = 1 ∨ (E 13 (tI E t jj) = 3 ∧ ¬ ty = E 14 (tI E t jj)) ∨ (E 13 (tI E t jj) = 4 ∧ ¬ B 16 (E 14 (tI E t jj)) = E 15 (tI E t jj))) → ∃ (c1 f' : Nat), jj < c1 ∧ c1 + 1 ≤ c0 ∧ tS E t (c1 + 1) = A ++ x :: R ∧ nxC B ty ((jj : Int) + 1) = ((c1 + 1 : Nat) : Int) + 1 ∧ B (20 + ((jj : Int) + 1)) 6 = (c1 : Int) + 1 ∧ f' ≤ 64 ∧ bhK (E 13) f' (tI E t jj + 1) 1 ∧ bhF (E 13) f' (tI E t jj + 1) 1 = tI E t (c1 + 1) := fun o => by
          have hopn : opnP (E 13 (tI E t jj)) := by rcases o with o | o | o; exact Or.inl o; exact Or.inr (Or.inl o.1); exact Or.inr (Or.inr o.1)
          obtain ⟨y, S, c1, hy⟩ := CTX_c hX (q := jj + 1) (by omega) (Or.inr ⟨jj, rfl, Or.inl hopn⟩)
          obtain ⟨y', e1, e2, e3, -⟩ := tS_push (Or.inl hopn)
          have hyS : y = y' ∧ S = tS E t jj := by have := hy.1.1; rw [this] at e1; simpa using e1
          have hne6 : jj ≠ c0 := fun z => by have := hp.2.2.2.2.2.1; rw [← z] at this; rcases hopn with w | w | w <;> omega
          have hn := clo_nest hX.2.2.2.2.2.1 hX.2.2.2.2.1 (q := p) (p := jj + 1) (by omega) (by omega) (by rw [hp.2.2.2.2.2.2.2]; omega)
          rw [hp.2.2.2.2.2.2.2, hy.2.2.2.2.2.2.2] at hn
          have hc1 := hy.2.1
          have hti : tI E t (jj + 1) = tI E t jj + 1 := by
            rw [tI_s]
            unfold nxI
            rw [if_neg (fun w => by rcases hopn with z | z | z <;> omega), if_neg (fun w => by rcases hopn with z | z | z <;> omega)]
          obtain ⟨f', f1, f2, f3⟩ := bh_tr hX.2.2.2.2.2.1 hX.2.2.2.2.1 (fun j hj => CTX_I hX hj) hy (by rw [hyS.1]; exact e3 hopn) (c1 + 1) (jj + 1) [] (by omega) (Nat.le_refl _) hc1 hy.1.1 (fun a ha => absurd ha List.not_mem_nil)
          rw [hti] at f2 f3
          have b6 : B (20 + ((jj : Int) + 1)) 6 = (c1 : Int) + 1 := by rw [e20, s6]; exact hy.2.2.2.2.2.2.2
          refine ⟨c1, f', by omega, by omega, by rw [hy.2.2.2.2.2.2.1, hyS.2, hS], ?_, b6, by have := hy.2.2.1; omega, f2, f3⟩
          unfold nxC pasP
          rw [b6, hst.1, hst.2.1, hst.2.2.1, if_pos (by rcases o with o | o | o; exact Or.inl o; exact Or.inr (Or.inl ⟨o.1, fun w => o.2 w.symm⟩); exact Or.inr (Or.inr o)), if_pos (by omega)]
          omega
        have inN : ∀ (es3 : List (List Int)) (q : Nat), jj < q → (∀ c ∈ es3.flatten, c ∈ es2.flatten ∨ c = 20 + ((jj : Int) + 1)) → (E 13 (tI E t jj) = 0 ∨ E 13 (tI E t jj) = 1 ∨ E 13 (tI E t jj) = 2) → B (20 + ((jj : Int) + 1)) 6 < (q : Int) + 1 → (∀ c ∈ es3.flatten, isEP B c ∧ (inR B done c ∨ (20 + (p : Int) < c ∧ B c 6 < (q : Int) + 1 ∧ c - 20 < B (20 + (p : Int)) 6))) ∧ ∀ c ∈ es3.flatten, c ∈ es.flatten ∨ TYC E B ty c := fun es3 q hq1 h3 o h6 => by
          have hne6 : jj ≠ c0 := fun z => by have := hp.2.2.2.2.2.1; rw [← z] at this; omega
          refine ⟨fun c hc => ?_, fun c hc => ?_⟩
          · rcases h3 c hc with w | w
            · exact ⟨(hin c w).1, (hin c w).2.imp id (fun z => ⟨z.1, by omega, z.2.2⟩)⟩
            · rw [w]
              exact ⟨by unfold isEP; rw [hst.1]; exact o, Or.inr ⟨by omega, h6, by omega⟩⟩
          · rcases h3 c hc with w | w
            · exact hTY c w
            · rw [w]; exact Or.inr (hEv o)
        have hni : (E 13 (tI E t jj) = 0 ∨ E 13 (tI E t jj) = 1 ∨ E 13 (tI E t jj) = 2) → 20 + ((jj : Int) + 1) ∉ es2.flatten := fun o hc => by
          have hne6 : jj ≠ c0 := fun z => by have := hp.2.2.2.2.2.1; rw [← z] at this; omega
          rcases (hin _ hc).2 with w | w
          · exact hd4 _ w ⟨by omega, by omega⟩
          · have := clo_rg hX.2.2.2.2.2.1 hX.2.2.2.2.1 (q := jj + 1) (by omega)
            rw [e20, s6] at w
            omega
        have inO : ∀ q : Nat, jj ≤ q → ∀ c ∈ es2.flatten, isEP B c ∧ (inR B done c ∨ (20 + (p : Int) < c ∧ B c 6 < (q : Int) + 1 ∧ c - 20 < B (20 + (p : Int)) 6)) := fun q hq1 c hc => ⟨(hin c hc).1, (hin c hc).2.imp id (fun z => ⟨z.1, by omega, z.2.2⟩)⟩
        have c06 : jj = c0 → E 13 (tI E t jj) = 6 := fun z => by rw [z]; exact hp.2.2.2.2.2.1
        have hjc : ¬ E 13 (tI E t jj) = 6 → jj < c0 := fun w => by
          rcases Nat.lt_or_ge jj c0 with z | z
          · exact z
          · exact absurd (c06 (by omega)) w
        have tI1 : ¬ E 13 (tI E t jj) = 5 → ¬ E 13 (tI E t jj) = 6 → tI E t (jj + 1) = tI E t jj + 1 := fun w5 w6 => by
          rw [tI_s]
          unfold nxI
          rw [if_neg w5, if_neg (fun z => w6 z.1)]
        rcases hk with ⟨o | o, hk⟩ | ⟨o, hk⟩ | ⟨o, hk⟩ | ⟨o, hk⟩ | ⟨o, hk⟩ | o
        · refine A_ist5 hC d_Mo_collectOne_89 ?_
          refine A_ild4 hC d_Mo_collectOne_91 ?_
          refine A_iconst hC d_Mo_collectOne_93 (by decide) ?_
          refine A_icmpge (tgt := 108) hC d_Mo_collectOne_94 (by decide) (fun h94 => ?_) (fun h94 => ?_)
          · exact absurd h94 (by omega)
          · refine A_ald0 hC d_Mo_collectOne_97 ?_
            refine A_ild1 hC d_Mo_collectOne_98 ?_
            refine A_ild3 hC d_Mo_collectOne_99 ?_
            refine A_VX (as := [.inl j, .inl (tI E t jj)]) hC d_Mo_collectOne_100 mv_Mo_take lk_Mo_151 (by decide) sel_Mo_take hq_Mo ly_88 (by omega) (k_Mo_take l n N hn B (TK E t) j (tI E t jj) (20 + ((jj : Int) + 1)) es2 SL2 hj hI (by rw [hT2.1, hst.1]) (by rw [hT2.2.1, hst.2.1]) (by rw [hT2.2.2.1, hst.2.2.1]) hRL2 hSL2 hl10 hl60 htk hne2) rfl rfl (Nat.le_of_ble_eq_true rfl) ⟨Nat.zero_le _, Nat.zero_le _⟩ rfl (fun v N1 hv => ?_)
            obtain ⟨⟨hv1, hv2⟩, hv01, hf1, hz1, hk1⟩ := hv
            refine A_ifne (tgt := 108) hC d_Mo_collectOne_103 (by decide) (fun h103 => ?_) (fun h103 => ?_)
            · refine A_ild4 hC d_Mo_collectOne_108 ?_
              refine A_iconst hC d_Mo_collectOne_110 (by decide) ?_
              refine A_icmpeq (tgt := 131) hC d_Mo_collectOne_111 (by decide) (fun h111 => ?_) (fun h111 => ?_)
              · exact absurd h111 (by omega)
              · refine A_ild4 hC d_Mo_collectOne_114 ?_
                refine A_iconst hC d_Mo_collectOne_116 (by decide) ?_
                refine A_icmpeq (tgt := 126) hC d_Mo_collectOne_117 (by decide) (fun h117 => ?_) (fun h117 => ?_)
                · exact absurd h117 (by omega)
                · refine A_ild4 hC d_Mo_collectOne_120 ?_
                  refine A_iconst hC d_Mo_collectOne_122 (by decide) ?_
                  refine A_icmpne (tgt := 142) hC d_Mo_collectOne_123 (by decide) (fun h123 => ?_) (fun h123 => ?_)
                  · refine A_ild4 hC d_Mo_collectOne_142 ?_
                    refine A_iconst hC d_Mo_collectOne_144 (by decide) ?_
                    refine A_icmpne (tgt := 169) hC d_Mo_collectOne_145 (by decide) (fun h145 => ?_) (fun h145 => ?_)
                    · refine A_ild4 hC d_Mo_collectOne_169 ?_
                      refine A_iconst hC d_Mo_collectOne_171 (by decide) ?_
                      refine A_icmpeq (tgt := 181) hC d_Mo_collectOne_172 (by decide) (fun h172 => ?_) (fun h172 => ?_)
                      · exact absurd h172 (by omega)
                      · refine A_ild4 hC d_Mo_collectOne_175 ?_
                        refine A_iconst hC d_Mo_collectOne_177 (by decide) ?_
                        refine A_icmpne (tgt := 187) hC d_Mo_collectOne_178 (by decide) (fun h178 => ?_) (fun h178 => ?_)
                        · refine A_ild4 hC d_Mo_collectOne_187 ?_
                          refine A_bipush hC d_Mo_collectOne_189 (by decide) (by decide) ?_
                          refine A_icmpne (tgt := 204) hC d_Mo_collectOne_191 (by decide) (fun h191 => ?_) (fun h191 => ?_)
                          · refine A_ild4 hC d_Mo_collectOne_204 ?_
                            refine A_bipush hC d_Mo_collectOne_206 (by decide) (by decide) ?_
                            refine A_icmpne (tgt := 235) hC d_Mo_collectOne_208 (by decide) (fun h208 => ?_) (fun h208 => ?_)
                            · refine A_ild3 hC d_Mo_collectOne_235 ?_
                              refine A_iconst hC d_Mo_collectOne_236 (by decide) ?_
                              refine A_iadd hC d_Mo_collectOne_237 (by omega) ?_
                              refine A_ist3 hC d_Mo_collectOne_238 ?_
                              refine A_goto (tgt := 13) hC d_Mo_collectOne_239 (by decide) ?_
                              cases hen : enP B (20 + ((jj : Int) + 1)) es2 with
                              | none => exact absurd (hv1 hen) (by omega)
                              | some e3 =>
                                obtain ⟨hv3, SL3, hR3, hSL3⟩ := hv2 e3 hen
                                have b6 := b60 (by omega)
                                obtain ⟨i1, i2⟩ := inN e3 (jj + 1) (by omega) (fun c hc => enP_fl es2 e3 hen c hc) (by omega) (by omega)
                                rw [← tI1 (by omega) (by omega)]
                                refine ih (jj + 1) A _ e3 SL3 _ _ (by omega) (by omega) (by omega) (by rw [tS_same (fun w => by rcases w with (w | w | w) | w <;> omega) (by omega)]; exact hS) (by rw [hz1]; exact hz) (arK_eq _ (fun y _ _ => hk1 y) har) hAt i1 (EPC_en hEP2 (hni (by omega)) hen) hR3 hSL3 i2 (fC_t hf hf1) ?_
                                rw [ent (by omega), hen]
                                dsimp only
                                rw [nx1 (by omega) (by omega) (by omega)]
                            · exact absurd h208 (by omega)
                          · exact absurd h191 (by omega)
                        · exact absurd h178 (by omega)
                    · exact absurd h145 (by omega)
                  · exact absurd h123 (by omega)
            · refine A_iconst hC d_Mo_collectOne_106 (by decide) ?_
              refine A_zret hC d_Mo_collectOne_107 rfl (Nat.le_refl _) (Nat.le_refl _) (by first | decide | omega) ?_
              refine ⟨rfl, _, rfl, ⟨fun _ => rfl, fun es' he => ?_⟩, Or.inl rfl, fC_t hf hf1⟩
              rw [ent (by omega)] at he
              cases hen : enP B (20 + ((jj : Int) + 1)) es2 with
              | none => rw [hen] at he; cases he
              | some e3 => exact absurd (hv2 e3 hen).1 (by omega)
        · refine A_ist5 hC d_Mo_collectOne_89 ?_
          refine A_ild4 hC d_Mo_collectOne_91 ?_
          refine A_iconst hC d_Mo_collectOne_93 (by decide) ?_
          refine A_icmpge (tgt := 108) hC d_Mo_collectOne_94 (by decide) (fun h94 => ?_) (fun h94 => ?_)
          · exact absurd h94 (by omega)
          · refine A_ald0 hC d_Mo_collectOne_97 ?_
            refine A_ild1 hC d_Mo_collectOne_98 ?_
            refine A_ild3 hC d_Mo_collectOne_99 ?_
            refine A_VX (as := [.inl j, .inl (tI E t jj)]) hC d_Mo_collectOne_100 mv_Mo_take lk_Mo_151 (by decide) sel_Mo_take hq_Mo ly_88 (by omega) (k_Mo_take l n N hn B (TK E t) j (tI E t jj) (20 + ((jj : Int) + 1)) es2 SL2 hj hI (by rw [hT2.1, hst.1]) (by rw [hT2.2.1, hst.2.1]) (by rw [hT2.2.2.1, hst.2.2.1]) hRL2 hSL2 hl10 hl60 htk hne2) rfl rfl (Nat.le_of_ble_eq_true rfl) ⟨Nat.zero_le _, Nat.zero_le _⟩ rfl (fun v N1 hv => ?_)
            obtain ⟨⟨hv1, hv2⟩, hv01, hf1, hz1, hk1⟩ := hv
            refine A_ifne (tgt := 108) hC d_Mo_collectOne_103 (by decide) (fun h103 => ?_) (fun h103 => ?_)
            · refine A_ild4 hC d_Mo_collectOne_108 ?_
              refine A_iconst hC d_Mo_collectOne_110 (by decide) ?_
              refine A_icmpeq (tgt := 131) hC d_Mo_collectOne_111 (by decide) (fun h111 => ?_) (fun h111 => ?_)
              · obtain ⟨c1, f1, g1, g2, g3, g4, g5, hb1, hb2, hb3⟩ := bnd (Or.inl o)
                have hfun : N1 96 = E 13 := funext (fun y => (RT_f hT2 hf1).1 y)
                refine A_ald0 hC d_Mo_collectOne_131 ?_
                refine A_ild3 hC d_Mo_collectOne_132 ?_
                refine A_iconst hC d_Mo_collectOne_133 (by decide) ?_
                refine A_iadd hC d_Mo_collectOne_134 (by omega) ?_
                refine A_VF1 (as := [.inl ((tI E t jj) + 1)]) hC d_Mo_collectOne_135 mv_Mo_behind lk_Mo_154 (by decide) sel_Mo_behind hq_Mo ly_88 (by omega) (k_Mo_behind l n N1 hn f1 (tI E t jj + 1) hb1 (by rw [hfun]; exact hb2)) rfl rfl (Nat.le_of_ble_eq_true rfl) ⟨Nat.zero_le _, Nat.zero_le _⟩ rfl ?_
                refine A_ist3 hC d_Mo_collectOne_138 ?_
                refine A_goto (tgt := 239) hC d_Mo_collectOne_139 (by decide) ?_
                refine A_goto (tgt := 13) hC d_Mo_collectOne_239 (by decide) ?_
                cases hen : enP B (20 + ((jj : Int) + 1)) es2 with
                | none => exact absurd (hv1 hen) (by omega)
                | some e3 =>
                  obtain ⟨hv3, SL3, hR3, hSL3⟩ := hv2 e3 hen
                  obtain ⟨i1, i2⟩ := inN e3 (c1 + 1) (by omega) (fun c hc => enP_fl es2 e3 hen c hc) (by omega) (by omega)
                  rw [hfun, hb3]
                  refine ih (c1 + 1) A _ e3 SL3 _ _ (by omega) (by omega) (by omega) g3 (by rw [hz1]; exact hz) (arK_eq _ (fun y _ _ => hk1 y) har) hAt i1 (EPC_en hEP2 (hni (by omega)) hen) hR3 hSL3 i2 (fC_t hf hf1) ?_
                  rw [ent (by omega), hen]
                  dsimp only
                  rw [g4]
              · exact absurd h111 (by omega)
            · refine A_iconst hC d_Mo_collectOne_106 (by decide) ?_
              refine A_zret hC d_Mo_collectOne_107 rfl (Nat.le_refl _) (Nat.le_refl _) (by first | decide | omega) ?_
              refine ⟨rfl, _, rfl, ⟨fun _ => rfl, fun es' he => ?_⟩, Or.inl rfl, fC_t hf hf1⟩
              rw [ent (by omega)] at he
              cases hen : enP B (20 + ((jj : Int) + 1)) es2 with
              | none => rw [hen] at he; cases he
              | some e3 => exact absurd (hv2 e3 hen).1 (by omega)
        · refine A_ist5 hC d_Mo_collectOne_89 ?_
          refine A_ild4 hC d_Mo_collectOne_91 ?_
          refine A_iconst hC d_Mo_collectOne_93 (by decide) ?_
          refine A_icmpge (tgt := 108) hC d_Mo_collectOne_94 (by decide) (fun h94 => ?_) (fun h94 => ?_)
          · exact absurd h94 (by omega)
          · refine A_ald0 hC d_Mo_collectOne_97 ?_
            refine A_ild1 hC d_Mo_collectOne_98 ?_
            refine A_ild3 hC d_Mo_collectOne_99 ?_
            refine A_VX (as := [.inl j, .inl (tI E t jj)]) hC d_Mo_collectOne_100 mv_Mo_take lk_Mo_151 (by decide) sel_Mo_take hq_Mo ly_88 (by omega) (k_Mo_take l n N hn B (TK E t) j (tI E t jj) (20 + ((jj : Int) + 1)) es2 SL2 hj hI (by rw [hT2.1, hst.1]) (by rw [hT2.2.1, hst.2.1]) (by rw [hT2.2.2.1, hst.2.2.1]) hRL2 hSL2 hl10 hl60 htk hne2) rfl rfl (Nat.le_of_ble_eq_true rfl) ⟨Nat.zero_le _, Nat.zero_le _⟩ rfl (fun v N1 hv => ?_)
            obtain ⟨⟨hv1, hv2⟩, hv01, hf1, hz1, hk1⟩ := hv
            refine A_ifne (tgt := 108) hC d_Mo_collectOne_103 (by decide) (fun h103 => ?_) (fun h103 => ?_)
            · refine A_ild4 hC d_Mo_collectOne_108 ?_
              refine A_iconst hC d_Mo_collectOne_110 (by decide) ?_
              refine A_icmpeq (tgt := 131) hC d_Mo_collectOne_111 (by decide) (fun h111 => ?_) (fun h111 => ?_)
              · exact absurd h111 (by omega)
              · refine A_ild4 hC d_Mo_collectOne_114 ?_
                refine A_iconst hC d_Mo_collectOne_116 (by decide) ?_
                refine A_icmpeq (tgt := 126) hC d_Mo_collectOne_117 (by decide) (fun h117 => ?_) (fun h117 => ?_)
                · exact absurd h117 (by omega)
                · refine A_ild4 hC d_Mo_collectOne_120 ?_
                  refine A_iconst hC d_Mo_collectOne_122 (by decide) ?_
                  refine A_icmpne (tgt := 142) hC d_Mo_collectOne_123 (by decide) (fun h123 => ?_) (fun h123 => ?_)
                  · refine A_ild4 hC d_Mo_collectOne_142 ?_
                    refine A_iconst hC d_Mo_collectOne_144 (by decide) ?_
                    refine A_icmpne (tgt := 169) hC d_Mo_collectOne_145 (by decide) (fun h145 => ?_) (fun h145 => ?_)
                    · refine A_ild4 hC d_Mo_collectOne_169 ?_
                      refine A_iconst hC d_Mo_collectOne_171 (by decide) ?_
                      refine A_icmpeq (tgt := 181) hC d_Mo_collectOne_172 (by decide) (fun h172 => ?_) (fun h172 => ?_)
                      · exact absurd h172 (by omega)
                      · refine A_ild4 hC d_Mo_collectOne_175 ?_
                        refine A_iconst hC d_Mo_collectOne_177 (by decide) ?_
                        refine A_icmpne (tgt := 187) hC d_Mo_collectOne_178 (by decide) (fun h178 => ?_) (fun h178 => ?_)
                        · refine A_ild4 hC d_Mo_collectOne_187 ?_
                          refine A_bipush hC d_Mo_collectOne_189 (by decide) (by decide) ?_
                          refine A_icmpne (tgt := 204) hC d_Mo_collectOne_191 (by decide) (fun h191 => ?_) (fun h191 => ?_)
                          · refine A_ild4 hC d_Mo_collectOne_204 ?_
                            refine A_bipush hC d_Mo_collectOne_206 (by decide) (by decide) ?_
                            refine A_icmpne (tgt := 235) hC d_Mo_collectOne_208 (by decide) (fun h208 => ?_) (fun h208 => ?_)
                            · refine A_ild3 hC d_Mo_collectOne_235 ?_
                              refine A_iconst hC d_Mo_collectOne_236 (by decide) ?_
                              refine A_iadd hC d_Mo_collectOne_237 (by omega) ?_
                              refine A_ist3 hC d_Mo_collectOne_238 ?_
                              refine A_goto (tgt := 13) hC d_Mo_collectOne_239 (by decide) ?_
                              cases hen : enP B (20 + ((jj : Int) + 1)) es2 with
                              | none => exact absurd (hv1 hen) (by omega)
                              | some e3 =>
                                obtain ⟨hv3, SL3, hR3, hSL3⟩ := hv2 e3 hen
                                have b6 := b60 (by omega)
                                obtain ⟨i1, i2⟩ := inN e3 (jj + 1) (by omega) (fun c hc => enP_fl es2 e3 hen c hc) (by omega) (by omega)
                                rw [← tI1 (by omega) (by omega)]
                                refine ih (jj + 1) A _ e3 SL3 _ _ (by omega) (by omega) (by omega) (by rw [tS_same (fun w => by rcases w with (w | w | w) | w <;> omega) (by omega)]; exact hS) (by rw [hz1]; exact hz) (arK_eq _ (fun y _ _ => hk1 y) har) hAt i1 (EPC_en hEP2 (hni (by omega)) hen) hR3 hSL3 i2 (fC_t hf hf1) ?_
                                rw [ent (by omega), hen]
                                dsimp only
                                rw [nx1 (by omega) (by omega) (by omega)]
                            · exact absurd h208 (by omega)
                          · exact absurd h191 (by omega)
                        · exact absurd h178 (by omega)
                    · exact absurd h145 (by omega)
                  · exact absurd h123 (by omega)
            · refine A_iconst hC d_Mo_collectOne_106 (by decide) ?_
              refine A_zret hC d_Mo_collectOne_107 rfl (Nat.le_refl _) (Nat.le_refl _) (by first | decide | omega) ?_
              refine ⟨rfl, _, rfl, ⟨fun _ => rfl, fun es' he => ?_⟩, Or.inl rfl, fC_t hf hf1⟩
              rw [ent (by omega)] at he
              cases hen : enP B (20 + ((jj : Int) + 1)) es2 with
              | none => rw [hen] at he; cases he
              | some e3 => exact absurd (hv2 e3 hen).1 (by omega)
        · refine A_ist5 hC d_Mo_collectOne_89 ?_
          refine A_ild4 hC d_Mo_collectOne_91 ?_
          refine A_iconst hC d_Mo_collectOne_93 (by decide) ?_
          refine A_icmpge (tgt := 108) hC d_Mo_collectOne_94 (by decide) (fun h94 => ?_) (fun h94 => ?_)
          · refine A_ild4 hC d_Mo_collectOne_108 ?_
            refine A_iconst hC d_Mo_collectOne_110 (by decide) ?_
            refine A_icmpeq (tgt := 131) hC d_Mo_collectOne_111 (by decide) (fun h111 => ?_) (fun h111 => ?_)
            · exact absurd h111 (by omega)
            · refine A_ild4 hC d_Mo_collectOne_114 ?_
              refine A_iconst hC d_Mo_collectOne_116 (by decide) ?_
              refine A_icmpeq (tgt := 126) hC d_Mo_collectOne_117 (by decide) (fun h117 => ?_) (fun h117 => ?_)
              · refine A_ild5 hC d_Mo_collectOne_126 ?_
                refine A_ifne (tgt := 142) hC d_Mo_collectOne_128 (by decide) (fun h128 => ?_) (fun h128 => ?_)
                · refine A_ild4 hC d_Mo_collectOne_142 ?_
                  refine A_iconst hC d_Mo_collectOne_144 (by decide) ?_
                  refine A_icmpne (tgt := 169) hC d_Mo_collectOne_145 (by decide) (fun h145 => ?_) (fun h145 => ?_)
                  · refine A_ild4 hC d_Mo_collectOne_169 ?_
                    refine A_iconst hC d_Mo_collectOne_171 (by decide) ?_
                    refine A_icmpeq (tgt := 181) hC d_Mo_collectOne_172 (by decide) (fun h172 => ?_) (fun h172 => ?_)
                    · refine A_ald0 hC d_Mo_collectOne_181 ?_
                      refine A_iconst hC d_Mo_collectOne_182 (by decide) ?_
                      refine A_iconst hC d_Mo_collectOne_183 (by decide) ?_
                      refine A_VF0 (as := [.inl 0, .inl (-1)]) hC d_Mo_collectOne_184 mv_Mo_enter lk_Mo_133 (by decide) sel_Mo_enter hq_Mo ly_88 (by omega) (k_Mo_enter l n N hn 0 (-1) (by omega)) rfl rfl (Nat.le_of_ble_eq_true rfl) ⟨Nat.zero_le _, Nat.zero_le _⟩ rfl ?_
                      refine A_ild4 hC d_Mo_collectOne_187 ?_
                      refine A_bipush hC d_Mo_collectOne_189 (by decide) (by decide) ?_
                      refine A_icmpne (tgt := 204) hC d_Mo_collectOne_191 (by decide) (fun h191 => ?_) (fun h191 => ?_)
                      · refine A_ild4 hC d_Mo_collectOne_204 ?_
                        refine A_bipush hC d_Mo_collectOne_206 (by decide) (by decide) ?_
                        refine A_icmpne (tgt := 235) hC d_Mo_collectOne_208 (by decide) (fun h208 => ?_) (fun h208 => ?_)
                        · refine A_ild3 hC d_Mo_collectOne_235 ?_
                          refine A_iconst hC d_Mo_collectOne_236 (by decide) ?_
                          refine A_iadd hC d_Mo_collectOne_237 (by omega) ?_
                          refine A_ist3 hC d_Mo_collectOne_238 ?_
                          refine A_goto (tgt := 13) hC d_Mo_collectOne_239 (by decide) ?_
                          have hb1 : b = 1 := hb.resolve_left h128
                          obtain ⟨y, e1, e2, e3, -⟩ := tS_push (E := E) (t := t) (k := jj) (Or.inl (by omega))
                          have hyt : y.1 = 5 ∨ y.1 = ty := by
                            rw [tS_ty e1 e2]
                            unfold tyP
                            rw [if_pos o]; exact Or.inr ((hb3 o).mp hb1).symm
                          rw [← tI1 (by omega) (by omega)]
                          refine ih (jj + 1) (y :: A) _ es2 SL2 _ _ (by omega) (by have := hjc (by omega); omega) (by omega) (by rw [e1, hS]; rfl) (by rw [up_eq, hz]; simp) (arK_en (by rw [hz]; simp) (e3 (by omega)) har) (fun a ha => ?_) (inO (jj + 1) (by omega)) hEP2 (RL_eq (fun c y z1 z2 => by rw [up_nc (by omega), up_nc (by omega), up_nc (by omega)]) hRL2) hSL2 hTY (fC_t hf fC_en) ?_
                          · rcases List.mem_cons.mp (show a ∈ y :: (A ++ [x]) from ha) with w | w
                            · rw [w]; exact hyt
                            · exact hAt a w
                          · rw [non (by omega) (by have := hjc (by omega); omega), nx1 (by omega) (fun _ => (hb3 o).mp hb1) (fun w => absurd (o.symm.trans w) (by decide))]
                        · exact absurd h208 (by omega)
                      · exact absurd h191 (by omega)
                    · exact absurd h172 (by omega)
                  · exact absurd h145 (by omega)
                · obtain ⟨c1, f1, g1, g2, g3, g4, g5, hb1, hb2, hb3⟩ := bnd (Or.inr (Or.inl ⟨o, fun w => absurd ((hb3 o).mpr w) (by rw [h128]; decide)⟩))
                  have hfun : N 96 = E 13 := funext (fun y => hT2.1 y)
                  refine A_ald0 hC d_Mo_collectOne_131 ?_
                  refine A_ild3 hC d_Mo_collectOne_132 ?_
                  refine A_iconst hC d_Mo_collectOne_133 (by decide) ?_
                  refine A_iadd hC d_Mo_collectOne_134 (by omega) ?_
                  refine A_VF1 (as := [.inl ((tI E t jj) + 1)]) hC d_Mo_collectOne_135 mv_Mo_behind lk_Mo_154 (by decide) sel_Mo_behind hq_Mo ly_88 (by omega) (k_Mo_behind l n N hn f1 (tI E t jj + 1) hb1 (by rw [hfun]; exact hb2)) rfl rfl (Nat.le_of_ble_eq_true rfl) ⟨Nat.zero_le _, Nat.zero_le _⟩ rfl ?_
                  refine A_ist3 hC d_Mo_collectOne_138 ?_
                  refine A_goto (tgt := 239) hC d_Mo_collectOne_139 (by decide) ?_
                  refine A_goto (tgt := 13) hC d_Mo_collectOne_239 (by decide) ?_
                  rw [hfun, hb3]
                  refine ih (c1 + 1) A _ es2 SL2 _ _ (by omega) (by omega) (by omega) g3 hz har hAt (inO (c1 + 1) (by omega)) hEP2 hRL2 hSL2 hTY hf ?_
                  rw [non (by omega) (by omega), g4]
              · exact absurd h117 (by omega)
          · exact absurd h94 (by omega)
        · refine A_ist5 hC d_Mo_collectOne_89 ?_
          refine A_ild4 hC d_Mo_collectOne_91 ?_
          refine A_iconst hC d_Mo_collectOne_93 (by decide) ?_
          refine A_icmpge (tgt := 108) hC d_Mo_collectOne_94 (by decide) (fun h94 => ?_) (fun h94 => ?_)
          · refine A_ild4 hC d_Mo_collectOne_108 ?_
            refine A_iconst hC d_Mo_collectOne_110 (by decide) ?_
            refine A_icmpeq (tgt := 131) hC d_Mo_collectOne_111 (by decide) (fun h111 => ?_) (fun h111 => ?_)
            · exact absurd h111 (by omega)
            · refine A_ild4 hC d_Mo_collectOne_114 ?_
              refine A_iconst hC d_Mo_collectOne_116 (by decide) ?_
              refine A_icmpeq (tgt := 126) hC d_Mo_collectOne_117 (by decide) (fun h117 => ?_) (fun h117 => ?_)
              · exact absurd h117 (by omega)
              · refine A_ild4 hC d_Mo_collectOne_120 ?_
                refine A_iconst hC d_Mo_collectOne_122 (by decide) ?_
                refine A_icmpne (tgt := 142) hC d_Mo_collectOne_123 (by decide) (fun h123 => ?_) (fun h123 => ?_)
                · exact absurd h123 (by omega)
                · refine A_ild5 hC d_Mo_collectOne_126 ?_
                  refine A_ifne (tgt := 142) hC d_Mo_collectOne_128 (by decide) (fun h128 => ?_) (fun h128 => ?_)
                  · refine A_ild4 hC d_Mo_collectOne_142 ?_
                    refine A_iconst hC d_Mo_collectOne_144 (by decide) ?_
                    refine A_icmpne (tgt := 169) hC d_Mo_collectOne_145 (by decide) (fun h145 => ?_) (fun h145 => ?_)
                    · refine A_ild4 hC d_Mo_collectOne_169 ?_
                      refine A_iconst hC d_Mo_collectOne_171 (by decide) ?_
                      refine A_icmpeq (tgt := 181) hC d_Mo_collectOne_172 (by decide) (fun h172 => ?_) (fun h172 => ?_)
                      · exact absurd h172 (by omega)
                      · refine A_ild4 hC d_Mo_collectOne_175 ?_
                        refine A_iconst hC d_Mo_collectOne_177 (by decide) ?_
                        refine A_icmpne (tgt := 187) hC d_Mo_collectOne_178 (by decide) (fun h178 => ?_) (fun h178 => ?_)
                        · exact absurd h178 (by omega)
                        · refine A_ald0 hC d_Mo_collectOne_181 ?_
                          refine A_iconst hC d_Mo_collectOne_182 (by decide) ?_
                          refine A_iconst hC d_Mo_collectOne_183 (by decide) ?_
                          refine A_VF0 (as := [.inl 0, .inl (-1)]) hC d_Mo_collectOne_184 mv_Mo_enter lk_Mo_133 (by decide) sel_Mo_enter hq_Mo ly_88 (by omega) (k_Mo_enter l n N hn 0 (-1) (by omega)) rfl rfl (Nat.le_of_ble_eq_true rfl) ⟨Nat.zero_le _, Nat.zero_le _⟩ rfl ?_
                          refine A_ild4 hC d_Mo_collectOne_187 ?_
                          refine A_bipush hC d_Mo_collectOne_189 (by decide) (by decide) ?_
                          refine A_icmpne (tgt := 204) hC d_Mo_collectOne_191 (by decide) (fun h191 => ?_) (fun h191 => ?_)
                          · refine A_ild4 hC d_Mo_collectOne_204 ?_
                            refine A_bipush hC d_Mo_collectOne_206 (by decide) (by decide) ?_
                            refine A_icmpne (tgt := 235) hC d_Mo_collectOne_208 (by decide) (fun h208 => ?_) (fun h208 => ?_)
                            · refine A_ild3 hC d_Mo_collectOne_235 ?_
                              refine A_iconst hC d_Mo_collectOne_236 (by decide) ?_
                              refine A_iadd hC d_Mo_collectOne_237 (by omega) ?_
                              refine A_ist3 hC d_Mo_collectOne_238 ?_
                              refine A_goto (tgt := 13) hC d_Mo_collectOne_239 (by decide) ?_
                              have hb1 : b = 1 := hb.resolve_left h128
                              obtain ⟨y, e1, e2, e3, -⟩ := tS_push (E := E) (t := t) (k := jj) (Or.inl (by omega))
                              have hyt : y.1 = 5 ∨ y.1 = ty := by
                                rw [tS_ty e1 e2]
                                unfold tyP
                                rw [if_neg (by omega), if_neg (by omega)]; exact htop
                              rw [← tI1 (by omega) (by omega)]
                              refine ih (jj + 1) (y :: A) _ es2 SL2 _ _ (by omega) (by have := hjc (by omega); omega) (by omega) (by rw [e1, hS]; rfl) (by rw [up_eq, hz]; simp) (arK_en (by rw [hz]; simp) (e3 (by omega)) har) (fun a ha => ?_) (inO (jj + 1) (by omega)) hEP2 (RL_eq (fun c y z1 z2 => by rw [up_nc (by omega), up_nc (by omega), up_nc (by omega)]) hRL2) hSL2 hTY (fC_t hf fC_en) ?_
                              · rcases List.mem_cons.mp (show a ∈ y :: (A ++ [x]) from ha) with w | w
                                · rw [w]; exact hyt
                                · exact hAt a w
                              · rw [non (by omega) (by have := hjc (by omega); omega), nx1 (by omega) (fun w => absurd (o.symm.trans w) (by decide)) (fun _ => (hb4 o).mp hb1)]
                            · exact absurd h208 (by omega)
                          · exact absurd h191 (by omega)
                    · exact absurd h145 (by omega)
                  · obtain ⟨c1, f1, g1, g2, g3, g4, g5, hb1, hb2, hb3⟩ := bnd (Or.inr (Or.inr ⟨o, fun w => absurd ((hb4 o).mpr w) (by rw [h128]; decide)⟩))
                    have hfun : N 96 = E 13 := funext (fun y => hT2.1 y)
                    refine A_ald0 hC d_Mo_collectOne_131 ?_
                    refine A_ild3 hC d_Mo_collectOne_132 ?_
                    refine A_iconst hC d_Mo_collectOne_133 (by decide) ?_
                    refine A_iadd hC d_Mo_collectOne_134 (by omega) ?_
                    refine A_VF1 (as := [.inl ((tI E t jj) + 1)]) hC d_Mo_collectOne_135 mv_Mo_behind lk_Mo_154 (by decide) sel_Mo_behind hq_Mo ly_88 (by omega) (k_Mo_behind l n N hn f1 (tI E t jj + 1) hb1 (by rw [hfun]; exact hb2)) rfl rfl (Nat.le_of_ble_eq_true rfl) ⟨Nat.zero_le _, Nat.zero_le _⟩ rfl ?_
                    refine A_ist3 hC d_Mo_collectOne_138 ?_
                    refine A_goto (tgt := 239) hC d_Mo_collectOne_139 (by decide) ?_
                    refine A_goto (tgt := 13) hC d_Mo_collectOne_239 (by decide) ?_
                    rw [hfun, hb3]
                    refine ih (c1 + 1) A _ es2 SL2 _ _ (by omega) (by omega) (by omega) g3 hz har hAt (inO (c1 + 1) (by omega)) hEP2 hRL2 hSL2 hTY hf ?_
                    rw [non (by omega) (by omega), g4]
          · exact absurd h94 (by omega)
        · refine A_ist5 hC d_Mo_collectOne_89 ?_
          refine A_ild4 hC d_Mo_collectOne_91 ?_
          refine A_iconst hC d_Mo_collectOne_93 (by decide) ?_
          refine A_icmpge (tgt := 108) hC d_Mo_collectOne_94 (by decide) (fun h94 => ?_) (fun h94 => ?_)
          · refine A_ild4 hC d_Mo_collectOne_108 ?_
            refine A_iconst hC d_Mo_collectOne_110 (by decide) ?_
            refine A_icmpeq (tgt := 131) hC d_Mo_collectOne_111 (by decide) (fun h111 => ?_) (fun h111 => ?_)
            · exact absurd h111 (by omega)
            · refine A_ild4 hC d_Mo_collectOne_114 ?_
              refine A_iconst hC d_Mo_collectOne_116 (by decide) ?_
              refine A_icmpeq (tgt := 126) hC d_Mo_collectOne_117 (by decide) (fun h117 => ?_) (fun h117 => ?_)
              · exact absurd h117 (by omega)
              · refine A_ild4 hC d_Mo_collectOne_120 ?_
                refine A_iconst hC d_Mo_collectOne_122 (by decide) ?_
                refine A_icmpne (tgt := 142) hC d_Mo_collectOne_123 (by decide) (fun h123 => ?_) (fun h123 => ?_)
                · refine A_ild4 hC d_Mo_collectOne_142 ?_
                  refine A_iconst hC d_Mo_collectOne_144 (by decide) ?_
                  refine A_icmpne (tgt := 169) hC d_Mo_collectOne_145 (by decide) (fun h145 => ?_) (fun h145 => ?_)
                  · exact absurd h145 (by omega)
                  · refine A_ald0 hC d_Mo_collectOne_148 ?_
                    refine A_iconst hC d_Mo_collectOne_149 (by decide) ?_
                    refine A_ild3 hC d_Mo_collectOne_150 ?_
                    refine A_iconst hC d_Mo_collectOne_151 (by decide) ?_
                    refine A_iadd hC d_Mo_collectOne_152 (by omega) ?_
                    refine A_VF0 (as := [.inl 0, .inl ((tI E t jj) + 1)]) hC d_Mo_collectOne_153 mv_Mo_enter lk_Mo_133 (by decide) sel_Mo_enter hq_Mo ly_88 (by omega) (k_Mo_enter l n N hn 0 ((tI E t jj) + 1) (by omega)) rfl rfl (Nat.le_of_ble_eq_true rfl) ⟨Nat.zero_le _, Nat.zero_le _⟩ rfl ?_
                    refine A_bipush hC d_Mo_collectOne_156 (by decide) (by decide) ?_
                    refine A_ald0 hC d_Mo_collectOne_158 ?_
                    refine A_getCR (v := 97) hC d_Mo_collectOne_159 fF_Mo_34 ⟨by decide, rfl⟩ ly_88 (by omega) ⟨rfl, by decide⟩ cv_88_10 ?_
                    refine A_ild3 hC d_Mo_collectOne_162 ?_
                    refine A_ialdE (x := N 97 (tI E t jj)) hC d_Mo_collectOne_163 ly_97 (by omega) (by omega) (by rw [up_nc (c := 88) (c' := 97) (by decide), up_nc (c := 100) (c' := 97) (by decide), up_nc (c := 99) (c' := 97) (by decide)]) ?_
                    refine A_eqi (hT2.2.1 _) ?_
                    refine A_imul hC d_Mo_collectOne_164 (by omega) ?_
                    refine A_ist3 hC d_Mo_collectOne_165 ?_
                    refine A_goto (tgt := 239) hC d_Mo_collectOne_166 (by decide) ?_
                    refine A_goto (tgt := 13) hC d_Mo_collectOne_239 (by decide) ?_
                    obtain ⟨y, e1, e2, -, e3⟩ := tS_push (E := E) (t := t) (k := jj) (Or.inr o)
                    have hyt : y.1 = 5 ∨ y.1 = ty := by
                      rw [tS_ty e1 e2]
                      unfold tyP
                      rw [if_neg (by omega), if_neg (by omega)]; exact htop
                    have hti : tI E t (jj + 1) = 16 * E 14 (tI E t jj) := by
                      rw [tI_s]
                      unfold nxI
                      rw [if_pos o]
                    rw [← hti]
                    refine ih (jj + 1) (y :: A) _ es2 SL2 _ _ (by omega) (by have := hjc (by omega); omega) (by omega) (by rw [e1, hS]; rfl) (by rw [up_eq, hz]; simp) (arK_en (by rw [hz]; simp) (e3 o) har) (fun a ha => ?_) (inO (jj + 1) (by omega)) hEP2 (RL_eq (fun c y z1 z2 => by rw [up_nc (by omega), up_nc (by omega), up_nc (by omega)]) hRL2) hSL2 hTY (fC_t hf fC_en) ?_
                    · rcases List.mem_cons.mp (show a ∈ y :: (A ++ [x]) from ha) with w | w
                      · rw [w]; exact hyt
                      · exact hAt a w
                    · rw [non (by omega) (by have := hjc (by omega); omega), nx1 (by omega) (by omega) (by omega)]
                · exact absurd h123 (by omega)
          · exact absurd h94 (by omega)
        · have hsE := tS_end o
          cases A with
          | nil =>
            have hjc0 : jj = c0 := by
              apply Classical.byContradiction
              intro w
              obtain ⟨A', hA'⟩ := hp.2.2.2.1 (jj + 1) (by omega) (by omega)
              rw [hsE, hS] at hA'
              have := congrArg List.length hA'
              simp at this
              omega
            have hz1 : N 88 13 - 1 = 0 := by simp at hz; omega
            have hb0 : N 100 0 = x.2.1 := har.1
            have hq2 : RR = some es2 := by rw [hq, if_pos (by omega)]
            refine A_ist5 hC d_Mo_collectOne_89 ?_
            refine A_ild4 hC d_Mo_collectOne_91 ?_
            refine A_iconst hC d_Mo_collectOne_93 (by decide) ?_
            refine A_icmpge (tgt := 108) hC d_Mo_collectOne_94 (by decide) (fun h94 => ?_) (fun h94 => ?_)
            · refine A_ild4 hC d_Mo_collectOne_108 ?_
              refine A_iconst hC d_Mo_collectOne_110 (by decide) ?_
              refine A_icmpeq (tgt := 131) hC d_Mo_collectOne_111 (by decide) (fun h111 => ?_) (fun h111 => ?_)
              · exact absurd h111 (by omega)
              · refine A_ild4 hC d_Mo_collectOne_114 ?_
                refine A_iconst hC d_Mo_collectOne_116 (by decide) ?_
                refine A_icmpeq (tgt := 126) hC d_Mo_collectOne_117 (by decide) (fun h117 => ?_) (fun h117 => ?_)
                · exact absurd h117 (by omega)
                · refine A_ild4 hC d_Mo_collectOne_120 ?_
                  refine A_iconst hC d_Mo_collectOne_122 (by decide) ?_
                  refine A_icmpne (tgt := 142) hC d_Mo_collectOne_123 (by decide) (fun h123 => ?_) (fun h123 => ?_)
                  · refine A_ild4 hC d_Mo_collectOne_142 ?_
                    refine A_iconst hC d_Mo_collectOne_144 (by decide) ?_
                    refine A_icmpne (tgt := 169) hC d_Mo_collectOne_145 (by decide) (fun h145 => ?_) (fun h145 => ?_)
                    · refine A_ild4 hC d_Mo_collectOne_169 ?_
                      refine A_iconst hC d_Mo_collectOne_171 (by decide) ?_
                      refine A_icmpeq (tgt := 181) hC d_Mo_collectOne_172 (by decide) (fun h172 => ?_) (fun h172 => ?_)
                      · exact absurd h172 (by omega)
                      · refine A_ild4 hC d_Mo_collectOne_175 ?_
                        refine A_iconst hC d_Mo_collectOne_177 (by decide) ?_
                        refine A_icmpne (tgt := 187) hC d_Mo_collectOne_178 (by decide) (fun h178 => ?_) (fun h178 => ?_)
                        · refine A_ild4 hC d_Mo_collectOne_187 ?_
                          refine A_bipush hC d_Mo_collectOne_189 (by decide) (by decide) ?_
                          refine A_icmpne (tgt := 204) hC d_Mo_collectOne_191 (by decide) (fun h191 => ?_) (fun h191 => ?_)
                          · exact absurd h191 (by omega)
                          · refine A_ald0 hC d_Mo_collectOne_194 ?_
                            refine A_dup hC d_Mo_collectOne_195 ?_
                            refine A_getI (kI := 13) hC d_Mo_collectOne_196 fF_Mo_130 ⟨by decide, rfl⟩ rfl ly_88 (by omega) ?_
                            refine A_iconst hC d_Mo_collectOne_199 (by decide) ?_
                            refine A_isub hC d_Mo_collectOne_200 (by omega) ?_
                            refine A_putI (kI := 13) hC d_Mo_collectOne_201 fP_Mo_130 ⟨by decide, rfl⟩ rfl ly_88 (by omega) (fun _ => by decide) ?_
                            refine A_ild4 hC d_Mo_collectOne_204 ?_
                            refine A_bipush hC d_Mo_collectOne_206 (by decide) (by decide) ?_
                            refine A_icmpne (tgt := 235) hC d_Mo_collectOne_208 (by decide) (fun h208 => ?_) (fun h208 => ?_)
                            · exact absurd h208 (by omega)
                            · refine A_ald0 hC d_Mo_collectOne_211 ?_
                              refine A_getCR (v := 100) hC d_Mo_collectOne_212 fF_Mo_47 ⟨by decide, rfl⟩ ly_88 (by omega) ⟨rfl, by decide⟩ cv_88_15 ?_
                              refine A_ald0 hC d_Mo_collectOne_215 ?_
                              refine A_getIE (x := (N 88 13) - 1) (kI := 13) hC d_Mo_collectOne_216 fF_Mo_130 ⟨by decide, rfl⟩ rfl ly_88 (by omega) (by rw [up_eq]) ?_
                              refine A_ialdE (x := N 100 ((N 88 13) - 1)) hC d_Mo_collectOne_219 ly_100 (by omega) (by omega) (by rw [up_nc (c := 88) (c' := 100) (by decide)]) ?_
                              refine A_iflt (tgt := 235) hC d_Mo_collectOne_220 (by decide) (fun h220 => ?_) (fun h220 => ?_)
                              · refine A_ild3 hC d_Mo_collectOne_235 ?_
                                refine A_iconst hC d_Mo_collectOne_236 (by decide) ?_
                                refine A_iadd hC d_Mo_collectOne_237 (by omega) ?_
                                refine A_ist3 hC d_Mo_collectOne_238 ?_
                                refine A_goto (tgt := 13) hC d_Mo_collectOne_239 (by decide) ?_
                                refine A_ald0 hC d_Mo_collectOne_13 ?_
                                refine A_getIE (x := (N 88 13) - 1) (kI := 13) hC d_Mo_collectOne_14 fF_Mo_130 ⟨by decide, rfl⟩ rfl ly_88 (by omega) (by rw [up_eq]) ?_
                                refine A_ifle (tgt := 242) hC d_Mo_collectOne_17 (by decide) (fun h17 => ?_) (fun h17 => ?_)
                                · refine A_iconst hC d_Mo_collectOne_242 (by decide) ?_
                                  refine A_zret hC d_Mo_collectOne_243 rfl (Nat.le_refl _) (Nat.le_refl _) (by first | decide | omega) ?_
                                  refine ⟨rfl, _, rfl, ⟨fun w => ?_, fun es' he => ?_⟩, Or.inr rfl, fC_t hf (fun c y w => by rw [up_nc_or (by omega)])⟩
                                  · rw [hq2] at w; cases w
                                  · rw [hq2] at he
                                    cases he
                                    exact ⟨rfl, ⟨SL2, RL_eq (fun c y z1 z2 => by rw [up_nc (by omega)]) hRL2, hSL2⟩, hTY⟩
                                · exact absurd h17 (by omega)
                              · exact absurd h220 (by rw [hz1, hb0]; omega)
                        · exact absurd h178 (by omega)
                    · exact absurd h145 (by omega)
                  · exact absurd h123 (by omega)
            · exact absurd h94 (by omega)
          | cons a A =>
            have hz1 : N 88 13 - 1 = ((A ++ [x]).length : Int) := by simp at hz ⊢; omega
            have hb0 : N 100 ((A ++ [x]).length : Int) = a.2.1 := har.1
            have hjc0 : jj < c0 := by
              rcases Nat.lt_or_ge jj c0 with z | z
              · exact z
              · exact absurd (fin (by omega)) (by simp)
            have nxt : AW X b0 D true 0 0 (fx_Q X b0 D true 0 0 (fun r' n' M' => n' = n ∧ ∃ v : Int, r' = some (.inl v) ∧ (((RR = none → v = 0) ∧ ∀ es', RR = some es' → v = 1 ∧ (∃ SL', RL B (TK E t) M' j es' SL' ∧ SLR B es' SL') ∧ ∀ c ∈ es'.flatten, c ∈ es.flatten ∨ TYC E B ty c) ∧ (v = 0 ∨ v = 1) ∧ fC j M M'))) n (up N 88 13 (N 88 13 - 1)) 13 [some (.inr 88), some (.inl j), some (.inl (tI E t p)), some (.inl (tI E t (jj + 1))), some (.inl (E 13 (tI E t jj))), some (.inl b)] [] := by
              refine ih (jj + 1) A _ es2 SL2 _ _ (by omega) (by omega) (by omega) (by rw [hsE, hS]; rfl) (by rw [up_eq, hz1]; simp) (arK_eq _ (fun y _ _ => by rw [up_nc (by decide)]) har.2) (fun a' ha' => hAt a' (List.mem_cons_of_mem _ ha')) (inO (jj + 1) (by omega)) hEP2 (RL_eq (fun c y z1 z2 => by rw [up_nc (by omega)]) hRL2) hSL2 hTY (fC_t hf (fun c y w => by rw [up_nc_or (by omega)])) ?_
              rw [non (by omega) (by omega), nx1 (by omega) (by omega) (by omega)]
            have htn : tI E t (jj + 1) = if 0 ≤ a.2.1 then a.2.1 else tI E t jj + 1 := by
              rw [tI_s]
              unfold nxI
              rw [if_neg (by omega), hS]
              show (if E 13 (tI E t jj) = 6 ∧ 0 ≤ a.2.1 then a.2.1 else _) = _
              by_cases w : 0 ≤ a.2.1
              · rw [if_pos ⟨o, w⟩, if_pos w]
              · rw [if_neg (fun z => w z.2), if_neg w]
            refine A_ist5 hC d_Mo_collectOne_89 ?_
            refine A_ild4 hC d_Mo_collectOne_91 ?_
            refine A_iconst hC d_Mo_collectOne_93 (by decide) ?_
            refine A_icmpge (tgt := 108) hC d_Mo_collectOne_94 (by decide) (fun h94 => ?_) (fun h94 => ?_)
            · refine A_ild4 hC d_Mo_collectOne_108 ?_
              refine A_iconst hC d_Mo_collectOne_110 (by decide) ?_
              refine A_icmpeq (tgt := 131) hC d_Mo_collectOne_111 (by decide) (fun h111 => ?_) (fun h111 => ?_)
              · exact absurd h111 (by omega)
              · refine A_ild4 hC d_Mo_collectOne_114 ?_
                refine A_iconst hC d_Mo_collectOne_116 (by decide) ?_
                refine A_icmpeq (tgt := 126) hC d_Mo_collectOne_117 (by decide) (fun h117 => ?_) (fun h117 => ?_)
                · exact absurd h117 (by omega)
                · refine A_ild4 hC d_Mo_collectOne_120 ?_
                  refine A_iconst hC d_Mo_collectOne_122 (by decide) ?_
                  refine A_icmpne (tgt := 142) hC d_Mo_collectOne_123 (by decide) (fun h123 => ?_) (fun h123 => ?_)
                  · refine A_ild4 hC d_Mo_collectOne_142 ?_
                    refine A_iconst hC d_Mo_collectOne_144 (by decide) ?_
                    refine A_icmpne (tgt := 169) hC d_Mo_collectOne_145 (by decide) (fun h145 => ?_) (fun h145 => ?_)
                    · refine A_ild4 hC d_Mo_collectOne_169 ?_
                      refine A_iconst hC d_Mo_collectOne_171 (by decide) ?_
                      refine A_icmpeq (tgt := 181) hC d_Mo_collectOne_172 (by decide) (fun h172 => ?_) (fun h172 => ?_)
                      · exact absurd h172 (by omega)
                      · refine A_ild4 hC d_Mo_collectOne_175 ?_
                        refine A_iconst hC d_Mo_collectOne_177 (by decide) ?_
                        refine A_icmpne (tgt := 187) hC d_Mo_collectOne_178 (by decide) (fun h178 => ?_) (fun h178 => ?_)
                        · refine A_ild4 hC d_Mo_collectOne_187 ?_
                          refine A_bipush hC d_Mo_collectOne_189 (by decide) (by decide) ?_
                          refine A_icmpne (tgt := 204) hC d_Mo_collectOne_191 (by decide) (fun h191 => ?_) (fun h191 => ?_)
                          · exact absurd h191 (by omega)
                          · refine A_ald0 hC d_Mo_collectOne_194 ?_
                            refine A_dup hC d_Mo_collectOne_195 ?_
                            refine A_getI (kI := 13) hC d_Mo_collectOne_196 fF_Mo_130 ⟨by decide, rfl⟩ rfl ly_88 (by omega) ?_
                            refine A_iconst hC d_Mo_collectOne_199 (by decide) ?_
                            refine A_isub hC d_Mo_collectOne_200 (by omega) ?_
                            refine A_putI (kI := 13) hC d_Mo_collectOne_201 fP_Mo_130 ⟨by decide, rfl⟩ rfl ly_88 (by omega) (fun _ => by decide) ?_
                            refine A_ild4 hC d_Mo_collectOne_204 ?_
                            refine A_bipush hC d_Mo_collectOne_206 (by decide) (by decide) ?_
                            refine A_icmpne (tgt := 235) hC d_Mo_collectOne_208 (by decide) (fun h208 => ?_) (fun h208 => ?_)
                            · exact absurd h208 (by omega)
                            · refine A_ald0 hC d_Mo_collectOne_211 ?_
                              refine A_getCR (v := 100) hC d_Mo_collectOne_212 fF_Mo_47 ⟨by decide, rfl⟩ ly_88 (by omega) ⟨rfl, by decide⟩ cv_88_15 ?_
                              refine A_ald0 hC d_Mo_collectOne_215 ?_
                              refine A_getIE (x := (N 88 13) - 1) (kI := 13) hC d_Mo_collectOne_216 fF_Mo_130 ⟨by decide, rfl⟩ rfl ly_88 (by omega) (by rw [up_eq]) ?_
                              refine A_ialdE (x := N 100 ((N 88 13) - 1)) hC d_Mo_collectOne_219 ly_100 (by omega) (by omega) (by rw [up_nc (c := 88) (c' := 100) (by decide)]) ?_
                              refine A_iflt (tgt := 235) hC d_Mo_collectOne_220 (by decide) (fun h220 => ?_) (fun h220 => ?_)
                              · refine A_ild3 hC d_Mo_collectOne_235 ?_
                                refine A_iconst hC d_Mo_collectOne_236 (by decide) ?_
                                refine A_iadd hC d_Mo_collectOne_237 (by omega) ?_
                                refine A_ist3 hC d_Mo_collectOne_238 ?_
                                refine A_goto (tgt := 13) hC d_Mo_collectOne_239 (by decide) ?_
                                rw [hz1, hb0] at h220
                                rw [htn, if_neg (by omega)] at nxt
                                exact nxt
                              · refine A_ald0 hC d_Mo_collectOne_223 ?_
                                refine A_getCR (v := 100) hC d_Mo_collectOne_224 fF_Mo_47 ⟨by decide, rfl⟩ ly_88 (by omega) ⟨rfl, by decide⟩ cv_88_15 ?_
                                refine A_ald0 hC d_Mo_collectOne_227 ?_
                                refine A_getIE (x := (N 88 13) - 1) (kI := 13) hC d_Mo_collectOne_228 fF_Mo_130 ⟨by decide, rfl⟩ rfl ly_88 (by omega) (by rw [up_eq]) ?_
                                refine A_ialdE (x := N 100 ((N 88 13) - 1)) hC d_Mo_collectOne_231 ly_100 (by omega) (by omega) (by rw [up_nc (c := 88) (c' := 100) (by decide)]) ?_
                                refine A_goto (tgt := 238) hC d_Mo_collectOne_232 (by decide) ?_
                                refine A_ist3 hC d_Mo_collectOne_238 ?_
                                refine A_goto (tgt := 13) hC d_Mo_collectOne_239 (by decide) ?_
                                rw [hz1, hb0] at h220
                                rw [htn, if_pos (by omega), ← hb0, ← hz1] at nxt
                                exact nxt
                        · exact absurd h178 (by omega)
                    · exact absurd h145 (by omega)
                  · exact absurd h123 (by omega)
            · exact absurd h94 (by omega)
      have hT97 : N 97 (tI E t jj) = E 14 (tI E t jj) := hT2.2.1 _
      have hT98 : N 98 (tI E t jj) = E 15 (tI E t jj) := hT2.2.2.1 _
      have hmod : E 13 (tI E t jj) = 4 → N 94 (E 14 (tI E t jj) % 4) = B 16 (E 14 (tI E t jj)) := fun o => by rw [e16, hT2.2.2.2]; congr 1; omega
      refine A_ald0 hC d_Mo_collectOne_13 ?_
      refine A_getI (kI := 13) hC d_Mo_collectOne_14 fF_Mo_130 ⟨by decide, rfl⟩ rfl ly_88 (by omega) ?_
      refine A_ifle (tgt := 242) hC d_Mo_collectOne_17 (by decide) (fun h17 => ?_) (fun h17 => ?_)
      · exact absurd h17 (by omega)
      · refine A_ald0 hC d_Mo_collectOne_20 ?_
        refine A_getCR (v := 96) hC d_Mo_collectOne_21 fF_Mo_31 ⟨by decide, rfl⟩ ly_88 (by omega) ⟨rfl, by decide⟩ cv_88_9 ?_
        refine A_ild3 hC d_Mo_collectOne_24 ?_
        refine A_iald hC d_Mo_collectOne_25 ly_96 (by omega) (by omega) ?_
        refine A_eqi (hT2.1 _) ?_
        refine A_ist4 hC d_Mo_collectOne_26 ?_
        refine A_ild4 hC d_Mo_collectOne_28 ?_
        refine A_iconst hC d_Mo_collectOne_30 (by decide) ?_
        refine A_icmpne (tgt := 62) hC d_Mo_collectOne_31 (by decide) (fun h31 => ?_) (fun h31 => ?_)
        · refine A_ald0 hC d_Mo_collectOne_62 ?_
          refine A_getCR (v := 94) hC d_Mo_collectOne_63 fF_Mo_25 ⟨by decide, rfl⟩ ly_88 (by omega) ⟨rfl, by decide⟩ cv_88_7 ?_
          refine A_ald0 hC d_Mo_collectOne_66 ?_
          refine A_getCR (v := 97) hC d_Mo_collectOne_67 fF_Mo_34 ⟨by decide, rfl⟩ ly_88 (by omega) ⟨rfl, by decide⟩ cv_88_10 ?_
          refine A_ild3 hC d_Mo_collectOne_70 ?_
          refine A_iald hC d_Mo_collectOne_71 ly_97 (by omega) (by omega) ?_
          refine A_eqi hT97 ?_
          refine A_iconst hC d_Mo_collectOne_72 (by decide) ?_
          refine A_iand3 hC d_Mo_collectOne_73 ?_
          refine A_iald hC d_Mo_collectOne_74 ly_94 (by omega) (by omega) ?_
          refine A_ald0 hC d_Mo_collectOne_75 ?_
          refine A_getCR (v := 98) hC d_Mo_collectOne_76 fF_Mo_37 ⟨by decide, rfl⟩ ly_88 (by omega) ⟨rfl, by decide⟩ cv_88_11 ?_
          refine A_ild3 hC d_Mo_collectOne_79 ?_
          refine A_iald hC d_Mo_collectOne_80 ly_98 (by omega) (by omega) ?_
          refine A_eqi hT98 ?_
          refine A_icmpne (tgt := 88) hC d_Mo_collectOne_81 (by decide) (fun h81 => ?_) (fun h81 => ?_)
          · refine A_iconst hC d_Mo_collectOne_88 (by decide) ?_
            exact mid _ (fun o => by omega) (fun o => by have := hmod o; omega) (by decide)
          · refine A_iconst hC d_Mo_collectOne_84 (by decide) ?_
            refine A_goto (tgt := 89) hC d_Mo_collectOne_85 (by decide) ?_
            exact mid _ (fun o => by omega) (fun o => by have := hmod o; omega) (by decide)
        · refine A_ald0 hC d_Mo_collectOne_34 ?_
          refine A_getCR (v := 91) hC d_Mo_collectOne_35 fF_Mo_16 ⟨by decide, rfl⟩ ly_88 (by omega) ⟨rfl, by decide⟩ cv_88_4 ?_
          refine A_ald0 hC d_Mo_collectOne_38 ?_
          refine A_getCR (v := 102) hC d_Mo_collectOne_39 fF_Mo_54 ⟨by decide, rfl⟩ ly_88 (by omega) ⟨rfl, by decide⟩ cv_88_18 ?_
          refine A_ild1 hC d_Mo_collectOne_42 ?_
          refine A_iald hC d_Mo_collectOne_43 ly_102 (by omega) (by omega) ?_
          refine A_iald hC d_Mo_collectOne_44 ly_91 (by omega) (by omega) ?_
          refine A_eqi g91 ?_
          refine A_ald0 hC d_Mo_collectOne_45 ?_
          refine A_getCR (v := 97) hC d_Mo_collectOne_46 fF_Mo_34 ⟨by decide, rfl⟩ ly_88 (by omega) ⟨rfl, by decide⟩ cv_88_10 ?_
          refine A_ild3 hC d_Mo_collectOne_49 ?_
          refine A_iald hC d_Mo_collectOne_50 ly_97 (by omega) (by omega) ?_
          refine A_eqi hT97 ?_
          refine A_icmpne (tgt := 58) hC d_Mo_collectOne_51 (by decide) (fun h51 => ?_) (fun h51 => ?_)
          · refine A_iconst hC d_Mo_collectOne_58 (by decide) ?_
            refine A_goto (tgt := 89) hC d_Mo_collectOne_59 (by decide) ?_
            exact mid _ (fun o => by omega) (fun o => by have := hmod o; omega) (by decide)
          · refine A_iconst hC d_Mo_collectOne_54 (by decide) ?_
            refine A_goto (tgt := 89) hC d_Mo_collectOne_55 (by decide) ?_
            exact mid _ (fun o => by omega) (fun o => by have := hmod o; omega) (by decide)
  have hE0 : RR = cI B ty (B (20 + (p : Int)) 6) 61 ((p : Int) + 1) es := by rw [← hRR]; congr 1; omega
  refine A_ald0 hC d_Mo_collectOne_0 ?_
  refine A_iconst hC d_Mo_collectOne_1 (by decide) ?_
  refine A_putI (kI := 13) hC d_Mo_collectOne_2 fP_Mo_130 ⟨by decide, rfl⟩ rfl ly_88 (by omega) (fun _ => by decide) ?_
  refine A_ald0 hC d_Mo_collectOne_5 ?_
  refine A_iconst hC d_Mo_collectOne_6 (by decide) ?_
  refine A_iconst hC d_Mo_collectOne_7 (by decide) ?_
  refine A_VF0 (as := [.inl 0, .inl (-1)]) hC d_Mo_collectOne_8 mv_Mo_enter lk_Mo_133 (by decide) sel_Mo_enter hq_Mo ly_88 (by omega) (k_Mo_enter l n (up M 88 13 0) hn 0 (-1) (by rw [up_eq]; decide)) rfl rfl (Nat.le_of_ble_eq_true rfl) ⟨Nat.zero_le _, Nat.zero_le _⟩ rfl ?_
  refine A_ild2 hC d_Mo_collectOne_11 ?_
  refine A_ist3 hC d_Mo_collectOne_12 ?_
  have z0 : (up M 88 13 0) 88 13 = 0 := up_eq _ _ _ _
  refine loop 61 p [] _ es SL _ _ (Nat.le_refl _) hpc (by omega) hp.1.1 (by rw [up_eq, z0]; rfl) (arK_en (a := x) (st := []) z0 hxb trivial) (fun a ha => by simp at ha; rw [ha]; exact hxt) (fun c hc => ⟨(hes c hc).1, Or.inl (hes c hc).2⟩) hEP (RL_eq (fun c y z1 z2 => by rw [up_nc (by omega), up_nc (by omega), up_nc (by omega), up_nc (by omega)]) hRL) hSL (fun c hc => Or.inl hc) (fC_t (fun c y w => by rw [up_nc_or (by omega)]) fC_en) hE0
