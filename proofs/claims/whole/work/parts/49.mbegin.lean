-- ===== the reference: codes and places; begin
def offP : List (List Int) → Int
  | [] => 0
  | p :: L => (p.length : Int) + offP L
theorem offP_app : ∀ (L : List (List Int)) (p : List Int), offP (L ++ [p]) = offP L + (p.length : Int)
  | [], p => by simp [offP]
  | a :: L, p => by
    show (a.length : Int) + offP (L ++ [p]) = (a.length : Int) + offP L + (p.length : Int)
    rw [offP_app L p]; omega
theorem offP_le : ∀ (L : List (List Int)), (∀ p ∈ L, p.length ≤ 26) → 0 ≤ offP L ∧ offP L ≤ 26 * (L.length : Int)
  | [], _ => by simp [offP]
  | a :: L, h => by
    have h1 := h a List.mem_cons_self
    have h2 := offP_le L (fun p hp => h p (List.mem_cons_of_mem _ hp))
    show 0 ≤ (a.length : Int) + offP L ∧ (a.length : Int) + offP L ≤ 26 * ((L.length + 1 : Nat) : Int)
    omega
theorem offP_take {L : List (List Int)} {k : Nat} (h : k < L.length) : offP (L.take (k + 1)) = offP (L.take k) + ((L.getD k []).length : Int) := by
  rw [List.take_add_one, List.getElem?_eq_getElem h, List.getD_eq_getElem?_getD, List.getElem?_eq_getElem h]
  exact offP_app _ _
/-- the places that were noted -/
def PLC (N : Mem) (L : List (List Int)) : Prop := (∀ p ∈ L, p.length ≤ 26) ∧ ∀ k : Nat, k < L.length → N 115 (k : Int) = offP (L.take (k + 1)) ∧ arL N 116 (offP (L.take k)) (L.getD k [])
/-- the reference's cells hold what was worked out so far -/
def CD (N : Mem) (s : SA) : Prop := (N 88 31 = (s.1.length : Int) ∧ arL N 114 0 s.1 ∧ (s.1.length : Int) ≤ s.2.1) ∧ (N 88 30 = s.2.1 ∧ s.2.1 ≤ 120) ∧ (N 88 33 = (s.2.2.length : Int) ∧ s.2.2.length ≤ 100) ∧ PLC N s.2.2
theorem PLC_eq {N N' : Mem} {L : List (List Int)} (e : ∀ c y : Int, c = 115 ∨ c = 116 → N' c y = N c y) (h : PLC N L) : PLC N' L := ⟨h.1, fun k hk => ⟨by rw [e _ _ (Or.inl rfl)]; exact (h.2 k hk).1, arL_eq (fun y => e _ _ (Or.inr rfl)) (h.2 k hk).2⟩⟩
theorem CD_eq {N N' : Mem} {s : SA} (e : ∀ c y : Int, (c = 114 ∨ c = 115 ∨ c = 116) ∨ (c = 88 ∧ (y = 30 ∨ y = 31 ∨ y = 33)) → N' c y = N c y) (h : CD N s) : CD N' s := by
  obtain ⟨⟨a1, a2, a3⟩, ⟨b1, b2⟩, ⟨c1, c2⟩, d1⟩ := h
  exact ⟨⟨by rw [e _ _ (by decide)]; exact a1, arL_eq (fun y => e _ _ (by simp)) a2, a3⟩, ⟨by rw [e _ _ (by decide)]; exact b1, b2⟩, ⟨by rw [e _ _ (by decide)]; exact c1, c2⟩, PLC_eq (fun c y hc => e c y (Or.inl (by omega))) d1⟩
theorem CD_b {N : Mem} {s : SA} (h : CD N s) : 0 ≤ N 88 31 ∧ N 88 31 ≤ N 88 30 ∧ N 88 30 ≤ 120 := by
  obtain ⟨⟨a1, a2, a3⟩, ⟨b1, b2⟩, -⟩ := h
  omega
theorem CD_say {N : Mem} {s : SA} (h : CD N s) (c : Int) : (∃ s1, sayE c s = .inr s1 ∧ N 88 30 ≠ 120 ∧ CD (mSay N c) s1 ∧ s1.2.1 = s.2.1 + 1 ∧ s1.2.2 = s.2.2) ∨ (sayE c s = .inl (-5) ∧ N 88 30 = 120) := by
  obtain ⟨⟨a1, a2, a3⟩, ⟨b1, b2⟩, ⟨c1, c2⟩, d1⟩ := h
  unfold sayE
  by_cases q : 120 ≤ s.2.1
  · rw [if_pos q]
    exact Or.inr ⟨rfl, by omega⟩
  · rw [if_neg q]
    refine Or.inl ⟨_, rfl, by omega, ?_, rfl, rfl⟩
    unfold mSay
    rw [if_neg (by omega)]
    refine ⟨⟨?_, ?_, ?_⟩, ⟨?_, ?_⟩, ⟨?_, ?_⟩, PLC_eq (fun c y hc => by rw [up_nc (by omega), up_nc (by omega), up_nc (by omega)]) d1⟩
    · rw [up_eq, a1]; simp
    · have := arL_snoc (v := c) a2
      rw [Int.zero_add, ← a1] at this
      exact arL_eq (fun y => by rw [up_nc (by decide)]; unfold up; repeat (first | rfl | omega | split)) this
    · simp; omega
    · rw [up_nk (by decide), up_nc (by decide), up_eq, b1]
    · show s.2.1 + 1 ≤ 120
      omega
    · rw [up_nk (by decide), up_nc (by decide), up_nk (by decide)]; exact c1
    · exact c2
/-- the levels below j, and the tables, are left alone -/
def fL (j : Int) (N N' : Mem) : Prop := ∀ c y : Int, ¬ (c = 99 ∨ c = 100 ∨ c = 114 ∨ c = 115 ∨ c = 116 ∨ (c = 88 ∧ (y = 13 ∨ y = 17 ∨ y = 30 ∨ y = 31 ∨ y = 33)) ∨ ((c = 102 ∨ c = 103 ∨ c = 107 ∨ c = 110 ∨ c = 111 ∨ c = 112 ∨ c = 113) ∧ j ≤ y) ∨ ((c = 104 ∨ c = 105 ∨ c = 106) ∧ 10 * j ≤ y) ∨ ((c = 108 ∨ c = 109) ∧ 64 * j ≤ y)) → N' c y = N c y
theorem fL_t {j : Int} {N N' N'' : Mem} (h : fL j N N') (h' : fL j N' N'') : fL j N N'' := fun c y q => by rw [h' c y q, h c y q]
theorem fL_r {j : Int} {N : Mem} : fL j N N := fun _ _ _ => rfl
theorem fL_C {j : Int} {N N' : Mem} (h : fC j N N') : fL j N N' := fun c y q => h c y (by omega)
theorem fL_say {j : Int} {N : Mem} {c : Int} : fL j N (mSay N c) := fun a y q => by
  unfold mSay
  split
  · rfl
  · rw [up_nc_or (by omega), up_nc (by omega), up_nc_or (by omega)]
theorem fL_le {i j : Int} {N N' : Mem} (hij : i ≤ j) (h : fL j N N') : fL i N N' := fun c y q => h c y (by omega)
/-- the SETS that are collected together for a row of the type ty -/
def SETC (E : Mem) (t : Int) (m : Nat) (ty : Int) (sets : List Int) : Prop := ∀ p ∈ sets, ∃ (q c : Nat) (x : Fr) (R : List Fr), p = 20 + (q : Int) ∧ CLS E t m q x R c ∧ x.2.1 = -1 ∧ (x.1 = 5 ∨ x.1 = ty)
/-- level j has just begun -/
def NEWL (E B : Mem) (t : Int) (j r ty st : Int) (es : List (List Int)) (N' : Mem) : Prop := N' 88 17 = j + 1 ∧ (N' 102 j = r ∧ N' 110 j = 0 ∧ N' 111 j = -1 ∧ N' 112 j = st ∧ N' 113 j = 0) ∧ (∃ SL, RL B (TK E t) N' j es SL ∧ SLR B es SL) ∧ ∀ c ∈ es.flatten, TYC E B ty c
def BEG (E B : Mem) (t : Int) (j r ty : Int) (sets : List Int) (s : SA) (v : Int) (N N' : Mem) : Prop := (cO B ty sets [] = none → v = -4) ∧ (∀ es, cO B ty sets [] = some es → (sayE 2 s = .inl (-5) → v = -5) ∧ ∀ s1, sayE 2 s = .inr s1 → v = 0 ∧ CD N' s1 ∧ NEWL E B t j r ty (s.1.length : Int) es N') ∧ fL j N N' 
theorem ini_RL {E B M : Mem} {t j r : Int} {s : SA} : RL B (TK E t) (up (up (up (up (up (up (up (up M 88 17 (j + 1)) 102 j r) 103 j 0) 107 j 0) 110 j 0) 111 j (-1)) 113 j 0) 112 j (s.1.length : Int)) j [] [] := by
  refine ⟨⟨?_, fun k hk => absurd hk (Nat.not_lt_zero k)⟩, ?_, fun a ha => absurd ha (Nat.not_lt_zero a)⟩
  · rw [up_nc (by decide), up_nc (by decide), up_nc (by decide), up_nc (by decide), up_nc (by decide), up_eq]; rfl
  · rw [up_nc (by decide), up_nc (by decide), up_nc (by decide), up_nc (by decide), up_eq]; rfl
theorem ini_SL {B : Mem} : SLR B [] [] := ⟨fun k hk => absurd hk (Nat.not_lt_zero k), fun p hp => absurd hp List.not_mem_nil, Nat.le_refl _⟩
theorem ini_f {M : Mem} {j r : Int} {s : SA} : fL j M (up (up (up (up (up (up (up (up M 88 17 (j + 1)) 102 j r) 103 j 0) 107 j 0) 110 j 0) 111 j (-1)) 113 j 0) 112 j (s.1.length : Int)) := fun c y q => by
  rw [up_nc_or (by omega), up_nc_or (by omega), up_nc_or (by omega), up_nc_or (by omega), up_nc_or (by omega), up_nc_or (by omega), up_nc_or (by omega), up_nc_or (by omega)]
theorem ini_v {M : Mem} {j r : Int} {s : SA} : (up (up (up (up (up (up (up (up M 88 17 (j + 1)) 102 j r) 103 j 0) 107 j 0) 110 j 0) 111 j (-1)) 113 j 0) 112 j (s.1.length : Int)) 88 17 = j + 1 ∧ ((up (up (up (up (up (up (up (up M 88 17 (j + 1)) 102 j r) 103 j 0) 107 j 0) 110 j 0) 111 j (-1)) 113 j 0) 112 j (s.1.length : Int)) 102 j = r ∧ (up (up (up (up (up (up (up (up M 88 17 (j + 1)) 102 j r) 103 j 0) 107 j 0) 110 j 0) 111 j (-1)) 113 j 0) 112 j (s.1.length : Int)) 110 j = 0 ∧ (up (up (up (up (up (up (up (up M 88 17 (j + 1)) 102 j r) 103 j 0) 107 j 0) 110 j 0) 111 j (-1)) 113 j 0) 112 j (s.1.length : Int)) 111 j = -1 ∧ (up (up (up (up (up (up (up (up M 88 17 (j + 1)) 102 j r) 103 j 0) 107 j 0) 110 j 0) 111 j (-1)) 113 j 0) 112 j (s.1.length : Int)) 112 j = (s.1.length : Int) ∧ (up (up (up (up (up (up (up (up M 88 17 (j + 1)) 102 j r) 103 j 0) 107 j 0) 110 j 0) 111 j (-1)) 113 j 0) 112 j (s.1.length : Int)) 113 j = 0) := by
  refine ⟨?_, ?_, ?_, ?_, ?_, ?_⟩
  · rw [up_nc (by decide), up_nc (by decide), up_nc (by decide), up_nc (by decide), up_nc (by decide), up_nc (by decide), up_nc (by decide), up_eq]
  · rw [up_nc (by decide), up_nc (by decide), up_nc (by decide), up_nc (by decide), up_nc (by decide), up_nc (by decide), up_eq]
  · rw [up_nc (by decide), up_nc (by decide), up_nc (by decide), up_eq]
  · rw [up_nc (by decide), up_nc (by decide), up_eq]
  · rw [up_eq]
  · rw [up_nc (by decide), up_eq]
set_option maxHeartbeats 4000000 in
theorem k_Mo_begin0 (l : Launch) (n : Nat) (M : Mem) (hn : 117 ≤ n) (E B : Mem) (t : Int) (m : Nat) (hX : CTX E B t m) (hT : RT E M) (j ty r : Int) (hlv : M 88 17 = j) (hr : 1 ≤ r ∧ r ≤ 12) (hty : M 91 r = ty) (s : SA) (hCD : CD M s) (sets : List Int) (hSP : SETP B ((m : Int) + 1) sets) (hSC : SETC E t m ty sets) (hj0 : j = 0) (hse : sets = [20]) : AX l m_Mo_begin 4 [.inr 88, .inl r] n M (fun v M' => BEG E B t j r ty sets s v M M') := by
  refine AM_intro (by decide) (Nat.le_of_ble_eq_true rfl) (fun X b0 D hC _ => ?_)
  show AW X b0 D true 0 0 _ n M 0 [some (.inr 88), some (.inl r), none, none, none] []
  have hcd := CD_b hCD
  have h31 := hCD.1.1
  have hIf : fL j M (up (up (up (up (up (up (up (up M 88 17 (j + 1)) 102 j r) 103 j 0) 107 j 0) 110 j 0) 111 j (-1)) 113 j 0) 112 j (s.1.length : Int)) := ini_f
  have hIv := ini_v (M := M) (j := j) (r := r) (s := s)
  have hIR := ini_RL (E := E) (B := B) (M := M) (t := t) (j := j) (r := r) (s := s)
  have hIT : RT E (up (up (up (up (up (up (up (up M 88 17 (j + 1)) 102 j r) 103 j 0) 107 j 0) 110 j 0) 111 j (-1)) 113 j 0) 112 j (s.1.length : Int)) := ⟨fun i => by rw [hIf 96 i (by omega)]; exact hT.1 i, fun i => by rw [hIf 97 i (by omega)]; exact hT.2.1 i, fun i => by rw [hIf 98 i (by omega)]; exact hT.2.2.1 i, fun i => by rw [hIf 94 i (by omega)]; exact hT.2.2.2 i⟩
  have hI91 : (up (up (up (up (up (up (up (up M 88 17 (j + 1)) 102 j r) 103 j 0) 107 j 0) 110 j 0) 111 j (-1)) 113 j 0) 112 j (s.1.length : Int)) 91 r = ty := by rw [hIf 91 r (by omega)]; exact hty
  have hICD : CD (up (up (up (up (up (up (up (up M 88 17 (j + 1)) 102 j r) 103 j 0) 107 j 0) 110 j 0) 111 j (-1)) 113 j 0) 112 j (s.1.length : Int)) s := CD_eq (fun c y q => by rw [up_nc_or (by omega), up_nc_or (by omega), up_nc_or (by omega), up_nc_or (by omega), up_nc_or (by omega), up_nc_or (by omega), up_nc_or (by omega), up_nc_or (by omega)]) hCD
  refine A_ald0 hC d_Mo_begin_0 ?_
  refine A_getI (kI := 17) hC d_Mo_begin_1 fF_Mo_157 ⟨by decide, rfl⟩ rfl ly_88 (by omega) ?_
  refine A_eqi hlv ?_
  refine A_ist2 hC d_Mo_begin_4 ?_
  refine A_ald0 hC d_Mo_begin_5 ?_
  refine A_dup hC d_Mo_begin_6 ?_
  refine A_getI (kI := 17) hC d_Mo_begin_7 fF_Mo_157 ⟨by decide, rfl⟩ rfl ly_88 (by omega) ?_
  refine A_eqi hlv ?_
  refine A_iconst hC d_Mo_begin_10 (by decide) ?_
  refine A_iadd hC d_Mo_begin_11 (by omega) ?_
  refine A_putI (kI := 17) hC d_Mo_begin_12 fP_Mo_157 ⟨by decide, rfl⟩ rfl ly_88 (by omega) (fun _ => by decide) ?_
  refine A_ald0 hC d_Mo_begin_15 ?_
  refine A_getCR (v := 102) hC d_Mo_begin_16 fF_Mo_54 ⟨by decide, rfl⟩ ly_88 (by omega) ⟨rfl, by decide⟩ cv_88_18 ?_
  refine A_ild2 hC d_Mo_begin_19 ?_
  refine A_ild1 hC d_Mo_begin_20 ?_
  refine A_iast hC d_Mo_begin_21 ly_102 (by omega) (by omega) (fun _ => kk_i _) ?_
  refine A_ald0 hC d_Mo_begin_22 ?_
  refine A_getCR (v := 103) hC d_Mo_begin_23 fF_Mo_57 ⟨by decide, rfl⟩ ly_88 (by omega) ⟨rfl, by decide⟩ cv_88_19 ?_
  refine A_ild2 hC d_Mo_begin_26 ?_
  refine A_iconst hC d_Mo_begin_27 (by decide) ?_
  refine A_iast hC d_Mo_begin_28 ly_103 (by omega) (by omega) (fun _ => kk_i _) ?_
  refine A_ald0 hC d_Mo_begin_29 ?_
  refine A_getCR (v := 107) hC d_Mo_begin_30 fF_Mo_69 ⟨by decide, rfl⟩ ly_88 (by omega) ⟨rfl, by decide⟩ cv_88_23 ?_
  refine A_ild2 hC d_Mo_begin_33 ?_
  refine A_iconst hC d_Mo_begin_34 (by decide) ?_
  refine A_iast hC d_Mo_begin_35 ly_107 (by omega) (by omega) (fun _ => kk_i _) ?_
  refine A_ald0 hC d_Mo_begin_36 ?_
  refine A_getCR (v := 110) hC d_Mo_begin_37 fF_Mo_78 ⟨by decide, rfl⟩ ly_88 (by omega) ⟨rfl, by decide⟩ cv_88_26 ?_
  refine A_ild2 hC d_Mo_begin_40 ?_
  refine A_iconst hC d_Mo_begin_41 (by decide) ?_
  refine A_iast hC d_Mo_begin_42 ly_110 (by omega) (by omega) (fun _ => kk_i _) ?_
  refine A_ald0 hC d_Mo_begin_43 ?_
  refine A_getCR (v := 111) hC d_Mo_begin_44 fF_Mo_81 ⟨by decide, rfl⟩ ly_88 (by omega) ⟨rfl, by decide⟩ cv_88_27 ?_
  refine A_ild2 hC d_Mo_begin_47 ?_
  refine A_iconst hC d_Mo_begin_48 (by decide) ?_
  refine A_iast hC d_Mo_begin_49 ly_111 (by omega) (by omega) (fun _ => kk_i _) ?_
  refine A_ald0 hC d_Mo_begin_50 ?_
  refine A_getCR (v := 113) hC d_Mo_begin_51 fF_Mo_87 ⟨by decide, rfl⟩ ly_88 (by omega) ⟨rfl, by decide⟩ cv_88_29 ?_
  refine A_ild2 hC d_Mo_begin_54 ?_
  refine A_iconst hC d_Mo_begin_55 (by decide) ?_
  refine A_zast hC d_Mo_begin_56 ly_113 (by omega) (by omega) (fun _ => kk_z _) (by first | decide | omega) ?_
  refine A_ald0 hC d_Mo_begin_57 ?_
  refine A_getCR (v := 112) hC d_Mo_begin_58 fF_Mo_84 ⟨by decide, rfl⟩ ly_88 (by omega) ⟨rfl, by decide⟩ cv_88_28 ?_
  refine A_ild2 hC d_Mo_begin_61 ?_
  refine A_ald0 hC d_Mo_begin_62 ?_
  refine A_getIE (x := M 88 31) (kI := 31) hC d_Mo_begin_63 fF_Mo_160 ⟨by decide, rfl⟩ rfl ly_88 (by omega) (by rw [up_nc (c := 113) (c' := 88) (by decide), up_nc (c := 111) (c' := 88) (by decide), up_nc (c := 110) (c' := 88) (by decide), up_nc (c := 107) (c' := 88) (by decide), up_nc (c := 103) (c' := 88) (by decide), up_nc (c := 102) (c' := 88) (by decide), up_nk (k := 17) (k' := 31) (by decide)]) ?_
  refine A_eqi h31 ?_
  refine A_iast hC d_Mo_begin_66 ly_112 (by omega) (by omega) (fun _ => kk_i _) ?_
  generalize up (up (up (up (up (up (up (up M 88 17 (j + 1)) 102 j r) 103 j 0) 107 j 0) 110 j 0) 111 j (-1)) 113 j 0) 112 j (s.1.length : Int) = M0 at hIf hIv hIR hIT hI91 hICD ⊢
  obtain ⟨q0, c0, x, R, hq0, hcls, hxb, hxt⟩ := hSC 20 (by rw [hse]; exact List.mem_cons_self)
  have hq00 : q0 = 0 := by omega
  subst hq00
  have hcc : cO B ty sets [] = cI B ty (B (20 + ((0 : Nat) : Int)) 6) 61 (20 + ((0 : Nat) : Int) - 20 + 1) [] := by
    rw [hse]
    show (match cI B ty (B 20 6) 61 (20 - 20 + 1) [] with | none => none | some es' => cO B ty [] es') = _
    show _ = cI B ty (B 20 6) 61 (20 - 20 + 1) []
    cases cI B ty (B 20 6) 61 (20 - 20 + 1) [] <;> rfl
  have failed : ∀ (N : Mem) (a : Int), fC j M0 N → cO B ty sets [] = none → AW X b0 D true 0 0 (fx_Q X b0 D true 0 0 (fun r' n' M' => n' = n ∧ ∃ v : Int, r' = some (.inl v) ∧ BEG E B t j r ty sets s v M M')) n N 163 [some (.inr 88), some (.inl r), some (.inl j), some (.inl 0), some (.inl a)] [] := by
    intro N a hf hno
    refine A_ild3 hC d_Mo_begin_163 ?_
    refine A_ifeq (tgt := 175) hC d_Mo_begin_164 (by decide) (fun h164 => ?_) (fun h164 => ?_)
    · refine A_bipush hC d_Mo_begin_175 (by decide) (by decide) ?_
      refine A_iret hC d_Mo_begin_177 rfl (Nat.le_refl _) (Nat.le_refl _) ?_
      exact ⟨rfl, _, rfl, fun _ => rfl, (fun es he => by rw [hno] at he; cases he), fL_t hIf (fL_C hf)⟩
    · exact absurd rfl h164
  have done_ : ∀ (N : Mem) (a : Int) (es2 : List (List Int)) (SL2 : List (Int × Nat)), fC j M0 N → cO B ty sets [] = some es2 → RL B (TK E t) N j es2 SL2 → SLR B es2 SL2 → (∀ c ∈ es2.flatten, TYC E B ty c) → AW X b0 D true 0 0 (fx_Q X b0 D true 0 0 (fun r' n' M' => n' = n ∧ ∃ v : Int, r' = some (.inl v) ∧ BEG E B t j r ty sets s v M M')) n N 163 [some (.inr 88), some (.inl r), some (.inl j), some (.inl 1), some (.inl a)] [] := by
    intro N a es2 SL2 hf hso hR2 hS2 hTY2
    have hCDN : CD N s := CD_eq (fun c y q => hf c y (by omega)) hICD
    have hcdN := CD_b hCDN
    refine A_ild3 hC d_Mo_begin_163 ?_
    refine A_ifeq (tgt := 175) hC d_Mo_begin_164 (by decide) (fun h164 => ?_) (fun h164 => ?_)
    · exact absurd h164 (by decide)
    · refine A_ald0 hC d_Mo_begin_167 ?_
      refine A_iconst hC d_Mo_begin_168 (by decide) ?_
      refine A_VF1 (as := [.inl 2]) hC d_Mo_begin_169 mv_Mo_say lk_Mo_166 (by decide) sel_Mo_say hq_Mo ly_88 (by omega) (k_Mo_say l n N hn 2 hcdN) rfl rfl (Nat.le_of_ble_eq_true rfl) ⟨Nat.zero_le _, Nat.zero_le _⟩ rfl ?_
      refine A_goto (tgt := 177) hC d_Mo_begin_172 (by decide) ?_
      refine A_iret hC d_Mo_begin_177 rfl (Nat.le_refl _) (Nat.le_refl _) ?_
      refine ⟨rfl, _, rfl, fun hno => absurd (hno.symm.trans hso) (by simp), fun es he => ?_, fL_t hIf (fL_t (fL_C hf) fL_say)⟩
      rw [hso] at he
      cases he
      rcases CD_say hCDN 2 with ⟨s1, g1, g2, g3, -, -⟩ | ⟨g1, g2⟩
      · refine ⟨fun q => absurd (g1.symm.trans q) (by simp), fun s2 q => ?_⟩
        rw [g1] at q
        cases q
        have kk : ∀ c y : Int, (c = 88 ∧ y = 17) ∨ (101 < c ∧ c < 114) → mSay N 2 c y = N c y := fun c y w => by
          unfold mSay
          split
          · rfl
          · rw [up_nc_or (by omega), up_nc (by omega), up_nc_or (by omega)]
        refine ⟨if_neg g2, g3, ?_, ⟨?_, ?_, ?_, ?_, ?_⟩, ⟨SL2, RL_eq (fun c y w1 w2 => kk c y (by omega)) hR2, hS2⟩, hTY2⟩
        · rw [kk 88 17 (by decide), hf 88 17 (by omega)]; exact hIv.1
        · rw [kk 102 _ (by omega), hf 102 _ (by omega)]; exact hIv.2.1
        · rw [kk 110 _ (by omega), hf 110 _ (by omega)]; exact hIv.2.2.1
        · rw [kk 111 _ (by omega), hf 111 _ (by omega)]; exact hIv.2.2.2.1
        · rw [kk 112 _ (by omega), hf 112 _ (by omega)]; exact hIv.2.2.2.2.1
        · rw [kk 113 _ (by omega), hf 113 _ (by omega)]; exact hIv.2.2.2.2.2
      · exact ⟨fun _ => if_pos g2, fun s1 q => by rw [g1] at q; cases q⟩
  refine A_ild2 hC d_Mo_begin_67 ?_
  refine A_ifgt (tgt := 80) hC d_Mo_begin_68 (by decide) (fun h68 => ?_) (fun h68 => ?_)
  · exact absurd h68 (by omega)
  · refine A_ald0 hC d_Mo_begin_71 ?_
    refine A_iconst hC d_Mo_begin_72 (by decide) ?_
    refine A_iconst hC d_Mo_begin_73 (by decide) ?_
    refine A_VX (as := [.inl 0, .inl 0]) hC d_Mo_begin_74 mv_Mo_collectOne lk_Mo_163 (by decide) sel_Mo_collectOne hq_Mo ly_88 (by omega) (k_Mo_collectOne l n M0 hn E B t m hX hIT 0 ty (by decide) (by rw [← hj0, hIv.2.1]; omega) (by rw [← hj0, hIv.2.1]; exact hI91) 0 c0 x R hcls hxb hxt [] [] (by rw [← hj0]; exact hIR) ini_SL EPC_0 [] (fun p hp => absurd hp List.not_mem_nil) (fun c hc => by obtain ⟨q, q1, -⟩ := hc; exact absurd q1 List.not_mem_nil) (fun c hc => absurd hc (by simp))) rfl rfl (Nat.le_of_ble_eq_true rfl) ⟨Nat.zero_le _, Nat.zero_le _⟩ rfl (fun v N1 hv => ?_)
    obtain ⟨⟨hv1, hv2⟩, hv01, hf1⟩ := hv
    rw [← hj0] at hf1 hv2
    refine A_ifeq (tgt := 84) hC d_Mo_begin_77 (by decide) (fun h77 => ?_) (fun h77 => ?_)
    · refine A_iconst hC d_Mo_begin_84 (by decide) ?_
      refine A_ist3 hC d_Mo_begin_85 ?_
      refine A_iconst hC d_Mo_begin_86 (by decide) ?_
      refine A_ist4 hC d_Mo_begin_87 ?_
      refine A_ild3 hC d_Mo_begin_89 ?_
      refine A_ifeq (tgt := 163) hC d_Mo_begin_90 (by decide) (fun h90 => ?_) (fun h90 => ?_)
      · cases hc : cO B ty sets [] with
        | none => exact failed N1 0 hf1 hc
        | some es2 => exact absurd (hv2 es2 (by rw [← hcc]; exact hc)).1 (by omega)
      · exact absurd rfl h90
    · refine A_iconst hC d_Mo_begin_80 (by decide) ?_
      refine A_goto (tgt := 85) hC d_Mo_begin_81 (by decide) ?_
      refine A_ist3 hC d_Mo_begin_85 ?_
      refine A_iconst hC d_Mo_begin_86 (by decide) ?_
      refine A_ist4 hC d_Mo_begin_87 ?_
      refine A_ild3 hC d_Mo_begin_89 ?_
      refine A_ifeq (tgt := 163) hC d_Mo_begin_90 (by decide) (fun h90 => ?_) (fun h90 => ?_)
      · exact absurd h90 (by decide)
      · refine A_ild2 hC d_Mo_begin_93 ?_
        refine A_ifle (tgt := 163) hC d_Mo_begin_94 (by decide) (fun h94 => ?_) (fun h94 => ?_)
        · cases hc : cO B ty sets [] with
          | none => exact absurd (hv1 (by rw [← hcc]; exact hc)) h77
          | some es2 =>
            obtain ⟨-, ⟨SL2, g1, g2⟩, g3⟩ := hv2 es2 (by rw [← hcc]; exact hc)
            exact done_ N1 0 es2 SL2 hf1 hc g1 g2 (fun c hc => (g3 c hc).resolve_left (by simp))
        · exact absurd h94 (by omega)
set_option maxHeartbeats 4000000 in
theorem k_Mo_begin (l : Launch) (n : Nat) (M : Mem) (hn : 117 ≤ n) (E B : Mem) (t : Int) (m : Nat) (hX : CTX E B t m) (hT : RT E M) (j ty r : Int) (hlv : M 88 17 = j) (hr : 1 ≤ r ∧ r ≤ 12) (hty : M 91 r = ty) (s : SA) (hCD : CD M s) (sets : List Int) (hSP : SETP B ((m : Int) + 1) sets) (hSC : SETC E t m ty sets) (hj1 : 1 ≤ j ∧ j ≤ 13) (esP : List (List Int)) (SLP : List (Int × Nat)) (hRP : RL B (TK E t) M (j - 1) esP SLP) (hSP2 : SLR B esP SLP) (hl60 : SLP.length ≤ 60) (k : Nat) (hk : k < esP.length) (hat : M 110 (j - 1) = (k : Int)) (hse : sets = esP.getD k []) (hop : B (hdE sets) 1 = 1) : AX l m_Mo_begin 4 [.inr 88, .inl r] n M (fun v M' => BEG E B t j r ty sets s v M M') := by
  refine AM_intro (by decide) (Nat.le_of_ble_eq_true rfl) (fun X b0 D hC _ => ?_)
  show AW X b0 D true 0 0 _ n M 0 [some (.inr 88), some (.inl r), none, none, none] []
  have hcd := CD_b hCD
  have h31 := hCD.1.1
  have hIf : fL j M (up (up (up (up (up (up (up (up M 88 17 (j + 1)) 102 j r) 103 j 0) 107 j 0) 110 j 0) 111 j (-1)) 113 j 0) 112 j (s.1.length : Int)) := ini_f
  have hIv := ini_v (M := M) (j := j) (r := r) (s := s)
  have hIR := ini_RL (E := E) (B := B) (M := M) (t := t) (j := j) (r := r) (s := s)
  have hIT : RT E (up (up (up (up (up (up (up (up M 88 17 (j + 1)) 102 j r) 103 j 0) 107 j 0) 110 j 0) 111 j (-1)) 113 j 0) 112 j (s.1.length : Int)) := ⟨fun i => by rw [hIf 96 i (by omega)]; exact hT.1 i, fun i => by rw [hIf 97 i (by omega)]; exact hT.2.1 i, fun i => by rw [hIf 98 i (by omega)]; exact hT.2.2.1 i, fun i => by rw [hIf 94 i (by omega)]; exact hT.2.2.2 i⟩
  have hI91 : (up (up (up (up (up (up (up (up M 88 17 (j + 1)) 102 j r) 103 j 0) 107 j 0) 110 j 0) 111 j (-1)) 113 j 0) 112 j (s.1.length : Int)) 91 r = ty := by rw [hIf 91 r (by omega)]; exact hty
  have hICD : CD (up (up (up (up (up (up (up (up M 88 17 (j + 1)) 102 j r) 103 j 0) 107 j 0) 110 j 0) 111 j (-1)) 113 j 0) 112 j (s.1.length : Int)) s := CD_eq (fun c y q => by rw [up_nc_or (by omega), up_nc_or (by omega), up_nc_or (by omega), up_nc_or (by omega), up_nc_or (by omega), up_nc_or (by omega), up_nc_or (by omega), up_nc_or (by omega)]) hCD
  have hP := CTX_P hX
  have hfil : (SLP.filter (fun p => p.2 == k)).map Prod.fst = sets := by rw [hse]; exact hSP2.1 k hk (by rw [← hse]; exact hop)
  have hI110 : (up (up (up (up (up (up (up (up M 88 17 (j + 1)) 102 j r) 103 j 0) 107 j 0) 110 j 0) 111 j (-1)) 113 j 0) 112 j (s.1.length : Int)) 110 (j - 1) = (k : Int) := by rw [hIf 110 _ (by omega)]; exact hat
  have hI107 : (up (up (up (up (up (up (up (up M 88 17 (j + 1)) 102 j r) 103 j 0) 107 j 0) 110 j 0) 111 j (-1)) 113 j 0) 112 j (s.1.length : Int)) 107 (j - 1) = (SLP.length : Int) := by rw [hIf 107 _ (by omega)]; exact hRP.2.1
  have hI108 : ∀ a : Nat, a < SLP.length → (up (up (up (up (up (up (up (up M 88 17 (j + 1)) 102 j r) 103 j 0) 107 j 0) 110 j 0) 111 j (-1)) 113 j 0) 112 j (s.1.length : Int)) 108 (64 * j - 64 + (a : Int)) = TK E t (SLP.getD a (0, 0)).1 ∧ (up (up (up (up (up (up (up (up M 88 17 (j + 1)) 102 j r) 103 j 0) 107 j 0) 110 j 0) 111 j (-1)) 113 j 0) 112 j (s.1.length : Int)) 109 (64 * j - 64 + (a : Int)) = ((SLP.getD a (0, 0)).2 : Int) := fun a ha => by
    rw [hIf 108 _ (by omega), hIf 109 _ (by omega), show 64 * j - 64 + (a : Int) = 64 * (j - 1) + (a : Int) by omega]
    exact hRP.2.2 a ha
  have h4 := SETP_h4 hSP
  refine A_ald0 hC d_Mo_begin_0 ?_
  refine A_getI (kI := 17) hC d_Mo_begin_1 fF_Mo_157 ⟨by decide, rfl⟩ rfl ly_88 (by omega) ?_
  refine A_eqi hlv ?_
  refine A_ist2 hC d_Mo_begin_4 ?_
  refine A_ald0 hC d_Mo_begin_5 ?_
  refine A_dup hC d_Mo_begin_6 ?_
  refine A_getI (kI := 17) hC d_Mo_begin_7 fF_Mo_157 ⟨by decide, rfl⟩ rfl ly_88 (by omega) ?_
  refine A_eqi hlv ?_
  refine A_iconst hC d_Mo_begin_10 (by decide) ?_
  refine A_iadd hC d_Mo_begin_11 (by omega) ?_
  refine A_putI (kI := 17) hC d_Mo_begin_12 fP_Mo_157 ⟨by decide, rfl⟩ rfl ly_88 (by omega) (fun _ => by decide) ?_
  refine A_ald0 hC d_Mo_begin_15 ?_
  refine A_getCR (v := 102) hC d_Mo_begin_16 fF_Mo_54 ⟨by decide, rfl⟩ ly_88 (by omega) ⟨rfl, by decide⟩ cv_88_18 ?_
  refine A_ild2 hC d_Mo_begin_19 ?_
  refine A_ild1 hC d_Mo_begin_20 ?_
  refine A_iast hC d_Mo_begin_21 ly_102 (by omega) (by omega) (fun _ => kk_i _) ?_
  refine A_ald0 hC d_Mo_begin_22 ?_
  refine A_getCR (v := 103) hC d_Mo_begin_23 fF_Mo_57 ⟨by decide, rfl⟩ ly_88 (by omega) ⟨rfl, by decide⟩ cv_88_19 ?_
  refine A_ild2 hC d_Mo_begin_26 ?_
  refine A_iconst hC d_Mo_begin_27 (by decide) ?_
  refine A_iast hC d_Mo_begin_28 ly_103 (by omega) (by omega) (fun _ => kk_i _) ?_
  refine A_ald0 hC d_Mo_begin_29 ?_
  refine A_getCR (v := 107) hC d_Mo_begin_30 fF_Mo_69 ⟨by decide, rfl⟩ ly_88 (by omega) ⟨rfl, by decide⟩ cv_88_23 ?_
  refine A_ild2 hC d_Mo_begin_33 ?_
  refine A_iconst hC d_Mo_begin_34 (by decide) ?_
  refine A_iast hC d_Mo_begin_35 ly_107 (by omega) (by omega) (fun _ => kk_i _) ?_
  refine A_ald0 hC d_Mo_begin_36 ?_
  refine A_getCR (v := 110) hC d_Mo_begin_37 fF_Mo_78 ⟨by decide, rfl⟩ ly_88 (by omega) ⟨rfl, by decide⟩ cv_88_26 ?_
  refine A_ild2 hC d_Mo_begin_40 ?_
  refine A_iconst hC d_Mo_begin_41 (by decide) ?_
  refine A_iast hC d_Mo_begin_42 ly_110 (by omega) (by omega) (fun _ => kk_i _) ?_
  refine A_ald0 hC d_Mo_begin_43 ?_
  refine A_getCR (v := 111) hC d_Mo_begin_44 fF_Mo_81 ⟨by decide, rfl⟩ ly_88 (by omega) ⟨rfl, by decide⟩ cv_88_27 ?_
  refine A_ild2 hC d_Mo_begin_47 ?_
  refine A_iconst hC d_Mo_begin_48 (by decide) ?_
  refine A_iast hC d_Mo_begin_49 ly_111 (by omega) (by omega) (fun _ => kk_i _) ?_
  refine A_ald0 hC d_Mo_begin_50 ?_
  refine A_getCR (v := 113) hC d_Mo_begin_51 fF_Mo_87 ⟨by decide, rfl⟩ ly_88 (by omega) ⟨rfl, by decide⟩ cv_88_29 ?_
  refine A_ild2 hC d_Mo_begin_54 ?_
  refine A_iconst hC d_Mo_begin_55 (by decide) ?_
  refine A_zast hC d_Mo_begin_56 ly_113 (by omega) (by omega) (fun _ => kk_z _) (by first | decide | omega) ?_
  refine A_ald0 hC d_Mo_begin_57 ?_
  refine A_getCR (v := 112) hC d_Mo_begin_58 fF_Mo_84 ⟨by decide, rfl⟩ ly_88 (by omega) ⟨rfl, by decide⟩ cv_88_28 ?_
  refine A_ild2 hC d_Mo_begin_61 ?_
  refine A_ald0 hC d_Mo_begin_62 ?_
  refine A_getIE (x := M 88 31) (kI := 31) hC d_Mo_begin_63 fF_Mo_160 ⟨by decide, rfl⟩ rfl ly_88 (by omega) (by rw [up_nc (c := 113) (c' := 88) (by decide), up_nc (c := 111) (c' := 88) (by decide), up_nc (c := 110) (c' := 88) (by decide), up_nc (c := 107) (c' := 88) (by decide), up_nc (c := 103) (c' := 88) (by decide), up_nc (c := 102) (c' := 88) (by decide), up_nk (k := 17) (k' := 31) (by decide)]) ?_
  refine A_eqi h31 ?_
  refine A_iast hC d_Mo_begin_66 ly_112 (by omega) (by omega) (fun _ => kk_i _) ?_
  generalize up (up (up (up (up (up (up (up M 88 17 (j + 1)) 102 j r) 103 j 0) 107 j 0) 110 j 0) 111 j (-1)) 113 j 0) 112 j (s.1.length : Int) = M0 at hIf hIv hIR hIT hI91 hICD hI110 hI107 hI108 ⊢
  have failed : ∀ (N : Mem) (a : Int), fC j M0 N → cO B ty sets [] = none → AW X b0 D true 0 0 (fx_Q X b0 D true 0 0 (fun r' n' M' => n' = n ∧ ∃ v : Int, r' = some (.inl v) ∧ BEG E B t j r ty sets s v M M')) n N 163 [some (.inr 88), some (.inl r), some (.inl j), some (.inl 0), some (.inl a)] [] := by
    intro N a hf hno
    refine A_ild3 hC d_Mo_begin_163 ?_
    refine A_ifeq (tgt := 175) hC d_Mo_begin_164 (by decide) (fun h164 => ?_) (fun h164 => ?_)
    · refine A_bipush hC d_Mo_begin_175 (by decide) (by decide) ?_
      refine A_iret hC d_Mo_begin_177 rfl (Nat.le_refl _) (Nat.le_refl _) ?_
      exact ⟨rfl, _, rfl, fun _ => rfl, (fun es he => by rw [hno] at he; cases he), fL_t hIf (fL_C hf)⟩
    · exact absurd rfl h164
  have done_ : ∀ (N : Mem) (a : Int) (es2 : List (List Int)) (SL2 : List (Int × Nat)), fC j M0 N → cO B ty sets [] = some es2 → RL B (TK E t) N j es2 SL2 → SLR B es2 SL2 → (∀ c ∈ es2.flatten, TYC E B ty c) → AW X b0 D true 0 0 (fx_Q X b0 D true 0 0 (fun r' n' M' => n' = n ∧ ∃ v : Int, r' = some (.inl v) ∧ BEG E B t j r ty sets s v M M')) n N 163 [some (.inr 88), some (.inl r), some (.inl j), some (.inl 1), some (.inl a)] [] := by
    intro N a es2 SL2 hf hso hR2 hS2 hTY2
    have hCDN : CD N s := CD_eq (fun c y q => hf c y (by omega)) hICD
    have hcdN := CD_b hCDN
    refine A_ild3 hC d_Mo_begin_163 ?_
    refine A_ifeq (tgt := 175) hC d_Mo_begin_164 (by decide) (fun h164 => ?_) (fun h164 => ?_)
    · exact absurd h164 (by decide)
    · refine A_ald0 hC d_Mo_begin_167 ?_
      refine A_iconst hC d_Mo_begin_168 (by decide) ?_
      refine A_VF1 (as := [.inl 2]) hC d_Mo_begin_169 mv_Mo_say lk_Mo_166 (by decide) sel_Mo_say hq_Mo ly_88 (by omega) (k_Mo_say l n N hn 2 hcdN) rfl rfl (Nat.le_of_ble_eq_true rfl) ⟨Nat.zero_le _, Nat.zero_le _⟩ rfl ?_
      refine A_goto (tgt := 177) hC d_Mo_begin_172 (by decide) ?_
      refine A_iret hC d_Mo_begin_177 rfl (Nat.le_refl _) (Nat.le_refl _) ?_
      refine ⟨rfl, _, rfl, fun hno => absurd (hno.symm.trans hso) (by simp), fun es he => ?_, fL_t hIf (fL_t (fL_C hf) fL_say)⟩
      rw [hso] at he
      cases he
      rcases CD_say hCDN 2 with ⟨s1, g1, g2, g3, -, -⟩ | ⟨g1, g2⟩
      · refine ⟨fun q => absurd (g1.symm.trans q) (by simp), fun s2 q => ?_⟩
        rw [g1] at q
        cases q
        have kk : ∀ c y : Int, (c = 88 ∧ y = 17) ∨ (101 < c ∧ c < 114) → mSay N 2 c y = N c y := fun c y w => by
          unfold mSay
          split
          · rfl
          · rw [up_nc_or (by omega), up_nc (by omega), up_nc_or (by omega)]
        refine ⟨if_neg g2, g3, ?_, ⟨?_, ?_, ?_, ?_, ?_⟩, ⟨SL2, RL_eq (fun c y w1 w2 => kk c y (by omega)) hR2, hS2⟩, hTY2⟩
        · rw [kk 88 17 (by decide), hf 88 17 (by omega)]; exact hIv.1
        · rw [kk 102 _ (by omega), hf 102 _ (by omega)]; exact hIv.2.1
        · rw [kk 110 _ (by omega), hf 110 _ (by omega)]; exact hIv.2.2.1
        · rw [kk 111 _ (by omega), hf 111 _ (by omega)]; exact hIv.2.2.2.1
        · rw [kk 112 _ (by omega), hf 112 _ (by omega)]; exact hIv.2.2.2.2.1
        · rw [kk 113 _ (by omega), hf 113 _ (by omega)]; exact hIv.2.2.2.2.2
      · exact ⟨fun _ => if_pos g2, fun s1 q => by rw [g1] at q; cases q⟩
  have loop : ∀ (S2 S1 : List (Int × Nat)) (N : Mem) (es2 : List (List Int)) (SL2 : List (Int × Nat)), SLP = S1 ++ S2 → fC j M0 N → RL B (TK E t) N j es2 SL2 → SLR B es2 SL2 → EPC B es2 → AC B es2.flatten → (∀ c ∈ es2.flatten, isEP B c ∧ inR B ((S1.filter (fun p => p.2 == k)).map Prod.fst) c) → (∀ c ∈ es2.flatten, TYC E B ty c) → cO B ty sets [] = cO B ty ((S2.filter (fun p => p.2 == k)).map Prod.fst) es2 → AW X b0 D true 0 0 (fx_Q X b0 D true 0 0 (fun r' n' M' => n' = n ∧ ∃ v : Int, r' = some (.inl v) ∧ BEG E B t j r ty sets s v M M')) n N 89 [some (.inr 88), some (.inl r), some (.inl j), some (.inl 1), some (.inl ((S1.length : Int)))] [] := by
    intro S2
    induction S2 with
    | nil =>
      intro S1 N es2 SL2 hsp hf hR2 hS2 hE2 hA2 hin2 hT2 hq
      rw [List.append_nil] at hsp
      have g107 : N 107 (j - 1) = (SLP.length : Int) := by rw [hf 107 _ (by omega)]; exact hI107
      refine A_ild3 hC d_Mo_begin_89 ?_
      refine A_ifeq (tgt := 163) hC d_Mo_begin_90 (by decide) (fun h90 => ?_) (fun h90 => ?_)
      · exact absurd h90 (by decide)
      · refine A_ild2 hC d_Mo_begin_93 ?_
        refine A_ifle (tgt := 163) hC d_Mo_begin_94 (by decide) (fun h94 => ?_) (fun h94 => ?_)
        · exact absurd h94 (by omega)
        · refine A_ild4 hC d_Mo_begin_97 ?_
          refine A_ald0 hC d_Mo_begin_99 ?_
          refine A_getCR (v := 107) hC d_Mo_begin_100 fF_Mo_69 ⟨by decide, rfl⟩ ly_88 (by omega) ⟨rfl, by decide⟩ cv_88_23 ?_
          refine A_ild2 hC d_Mo_begin_103 ?_
          refine A_iconst hC d_Mo_begin_104 (by decide) ?_
          refine A_isub hC d_Mo_begin_105 (by omega) ?_
          refine A_iald hC d_Mo_begin_106 ly_107 (by omega) (by omega) ?_
          refine A_icmpge (tgt := 163) hC d_Mo_begin_107 (by decide) (fun h107 => ?_) (fun h107 => ?_)
          · exact done_ N _ es2 SL2 hf hq hR2 hS2 hT2
          · exact absurd h107 (by rw [g107, hsp]; omega)
    | cons a S2 ih =>
      intro S1 N es2 SL2 hsp hf hR2 hS2 hE2 hA2 hin2 hT2 hq
      obtain ⟨c, k'⟩ := a
      have hlt : S1.length < SLP.length := by rw [hsp]; simp
      have hgd : SLP.getD S1.length (0, 0) = (c, k') := by rw [hsp]; exact getD_e
      have g107 : N 107 (j - 1) = (SLP.length : Int) := by rw [hf 107 _ (by omega)]; exact hI107
      have g110 : N 110 (j - 1) = (k : Int) := by rw [hf 110 _ (by omega)]; exact hI110
      have g108 : N 108 (64 * j - 64 + (S1.length : Int)) = TK E t c ∧ N 109 (64 * j - 64 + (S1.length : Int)) = (k' : Int) := by
        rw [hf 108 _ (by omega), hf 109 _ (by omega)]
        have := hI108 S1.length hlt
        rw [hgd] at this
        exact this
      have gT := RT_f hIT hf
      have g102 : N 102 j = r := by rw [hf 102 _ (by omega)]; exact hIv.2.1
      have g91 : N 91 r = ty := by rw [hf 91 _ (by omega)]; exact hI91
      have next : ∀ (N2 : Mem) (es3 : List (List Int)) (SL3 : List (Int × Nat)), fC j M0 N2 → RL B (TK E t) N2 j es3 SL3 → SLR B es3 SL3 → EPC B es3 → AC B es3.flatten → (∀ c' ∈ es3.flatten, isEP B c' ∧ inR B (((S1 ++ [(c, k')]).filter (fun p => p.2 == k)).map Prod.fst) c') → (∀ c ∈ es3.flatten, TYC E B ty c) → cO B ty sets [] = cO B ty ((S2.filter (fun p => p.2 == k)).map Prod.fst) es3 → AW X b0 D true 0 0 (fx_Q X b0 D true 0 0 (fun r' n' M' => n' = n ∧ ∃ v : Int, r' = some (.inl v) ∧ BEG E B t j r ty sets s v M M')) n N2 89 [some (.inr 88), some (.inl r), some (.inl j), some (.inl 1), some (.inl ((S1.length : Int) + 1))] [] := by
        intro N2 es3 SL3 n1 n2 n3 n4 n5 n6 n7 n8
        have := ih (S1 ++ [(c, k')]) N2 es3 SL3 (by rw [hsp]; simp) n1 n2 n3 n4 n5 n6 n7 n8
        rw [List.length_append] at this
        exact this
      refine A_ild3 hC d_Mo_begin_89 ?_
      refine A_ifeq (tgt := 163) hC d_Mo_begin_90 (by decide) (fun h90 => ?_) (fun h90 => ?_)
      · exact absurd h90 (by decide)
      · refine A_ild2 hC d_Mo_begin_93 ?_
        refine A_ifle (tgt := 163) hC d_Mo_begin_94 (by decide) (fun h94 => ?_) (fun h94 => ?_)
        · exact absurd h94 (by omega)
        · refine A_ild4 hC d_Mo_begin_97 ?_
          refine A_ald0 hC d_Mo_begin_99 ?_
          refine A_getCR (v := 107) hC d_Mo_begin_100 fF_Mo_69 ⟨by decide, rfl⟩ ly_88 (by omega) ⟨rfl, by decide⟩ cv_88_23 ?_
          refine A_ild2 hC d_Mo_begin_103 ?_
          refine A_iconst hC d_Mo_begin_104 (by decide) ?_
          refine A_isub hC d_Mo_begin_105 (by omega) ?_
          refine A_iald hC d_Mo_begin_106 ly_107 (by omega) (by omega) ?_
          refine A_icmpge (tgt := 163) hC d_Mo_begin_107 (by decide) (fun h107 => ?_) (fun h107 => ?_)
          · exact absurd h107 (by rw [g107]; omega)
          · refine A_ald0 hC d_Mo_begin_110 ?_
            refine A_getCR (v := 109) hC d_Mo_begin_111 fF_Mo_75 ⟨by decide, rfl⟩ ly_88 (by omega) ⟨rfl, by decide⟩ cv_88_25 ?_
            refine A_bipush hC d_Mo_begin_114 (by decide) (by decide) ?_
            refine A_ild2 hC d_Mo_begin_116 ?_
            refine A_imul hC d_Mo_begin_117 (by omega) ?_
            refine A_bipush hC d_Mo_begin_118 (by decide) (by decide) ?_
            refine A_isub hC d_Mo_begin_120 (by omega) ?_
            refine A_ild4 hC d_Mo_begin_121 ?_
            refine A_iadd hC d_Mo_begin_123 (by omega) ?_
            refine A_iald hC d_Mo_begin_124 ly_109 (by omega) (by omega) ?_
            refine A_eqi g108.2 ?_
            refine A_ald0 hC d_Mo_begin_125 ?_
            refine A_getCR (v := 110) hC d_Mo_begin_126 fF_Mo_78 ⟨by decide, rfl⟩ ly_88 (by omega) ⟨rfl, by decide⟩ cv_88_26 ?_
            refine A_ild2 hC d_Mo_begin_129 ?_
            refine A_iconst hC d_Mo_begin_130 (by decide) ?_
            refine A_isub hC d_Mo_begin_131 (by omega) ?_
            refine A_iald hC d_Mo_begin_132 ly_110 (by omega) (by omega) ?_
            refine A_eqi g110 ?_
            refine A_icmpne (tgt := 157) hC d_Mo_begin_133 (by decide) (fun h133 => ?_) (fun h133 => ?_)
            · refine A_iinc4 hC d_Mo_begin_157 (by omega) ?_
              refine A_goto (tgt := 89) hC d_Mo_begin_160 (by decide) ?_
              have hkk : ¬ (k' == k) = true := by simp; omega
              have hflt : (((c, k') :: S2).filter (fun p => p.2 == k)) = S2.filter (fun p => p.2 == k) := List.filter_cons_of_neg (p := fun p : Int × Nat => p.2 == k) (a := (c, k')) hkk
              rw [hflt] at hq
              refine next N es2 SL2 hf hR2 hS2 hE2 hA2 (fun c' hc' => ?_) hT2 hq
              have := hin2 c' hc'
              rw [List.filter_append, List.filter_cons_of_neg (p := fun p : Int × Nat => p.2 == k) (a := (c, k')) hkk, List.filter_nil, List.append_nil]
              exact this
            · refine A_ald0 hC d_Mo_begin_136 ?_
              refine A_ild2 hC d_Mo_begin_137 ?_
              refine A_ald0 hC d_Mo_begin_138 ?_
              refine A_getCR (v := 108) hC d_Mo_begin_139 fF_Mo_72 ⟨by decide, rfl⟩ ly_88 (by omega) ⟨rfl, by decide⟩ cv_88_24 ?_
              refine A_bipush hC d_Mo_begin_142 (by decide) (by decide) ?_
              refine A_ild2 hC d_Mo_begin_144 ?_
              refine A_imul hC d_Mo_begin_145 (by omega) ?_
              refine A_bipush hC d_Mo_begin_146 (by decide) (by decide) ?_
              refine A_isub hC d_Mo_begin_148 (by omega) ?_
              refine A_ild4 hC d_Mo_begin_149 ?_
              refine A_iadd hC d_Mo_begin_151 (by omega) ?_
              refine A_iald hC d_Mo_begin_152 ly_108 (by omega) (by omega) ?_
              have hkk : (k' == k) = true := by simp; omega
              have hflt : (((c, k') :: S2).filter (fun p => p.2 == k)).map Prod.fst = c :: (S2.filter (fun p => p.2 == k)).map Prod.fst := by rw [List.filter_cons_of_pos (p := fun p : Int × Nat => p.2 == k) (a := (c, k')) hkk]; rfl
              have hsets : sets = (S1.filter (fun p => p.2 == k)).map Prod.fst ++ c :: (S2.filter (fun p => p.2 == k)).map Prod.fst := by rw [← hfil, hsp, List.filter_append, List.map_append, hflt]
              obtain ⟨q0, c0, x, R, hq0, hcls, hxb, hxt⟩ := hSC c (by rw [hsets]; exact List.mem_append_right _ List.mem_cons_self)
              have hd4 := h4 _ c _ hsets
              have hdn : inP ((m : Int) + 1) ((S1.filter (fun p => p.2 == k)).map Prod.fst) := fun p hp => hSP.1 p (by rw [hsets]; exact List.mem_append_left _ hp)
              have hpc : 20 ≤ c ∧ c < 20 + ((m : Int) + 1) := hSP.1 c (by rw [hsets]; exact List.mem_append_right _ List.mem_cons_self)
              have htkc : TK E t c = tI E t q0 := by show tI E t (c - 20).toNat = _; rw [hq0, show (20 + (q0 : Int) - 20).toNat = q0 by omega]
              rw [hflt] at hq
              change cO B ty sets [] = (match cI B ty (B c 6) 61 (c - 20 + 1) es2 with | none => none | some es' => cO B ty ((S2.filter (fun p => p.2 == k)).map Prod.fst) es') at hq
              rw [hq0] at hd4 hq hpc hsets
              refine A_eqi (g108.1.trans htkc) ?_
              refine A_VX (as := [.inl j, .inl (tI E t q0)]) hC d_Mo_begin_153 mv_Mo_collectOne lk_Mo_163 (by decide) sel_Mo_collectOne hq_Mo ly_88 (by omega) (k_Mo_collectOne l n N hn E B t m hX gT j ty (by omega) (by rw [g102]; omega) (by rw [g102]; exact g91) q0 c0 x R hcls hxb hxt es2 SL2 hR2 hS2 hE2 ((S1.filter (fun p => p.2 == k)).map Prod.fst) hdn hd4 hin2) rfl rfl (Nat.le_of_ble_eq_true rfl) ⟨Nat.zero_le _, Nat.zero_le _⟩ rfl (fun v N1 hv => ?_)
              obtain ⟨⟨hv1, hv2⟩, hv01, hf1⟩ := hv
              refine A_ist3 hC d_Mo_begin_156 ?_
              refine A_iinc4 hC d_Mo_begin_157 (by omega) ?_
              refine A_goto (tgt := 89) hC d_Mo_begin_160 (by decide) ?_
              rcases hv01 with hv0 | hv0
              · subst hv0
                have hno : cO B ty sets [] = none := by
                  rw [hq]
                  cases hc : cI B ty (B (20 + (q0 : Int)) 6) 61 (20 + (q0 : Int) - 20 + 1) es2 with
                  | none => rfl
                  | some e3 => exact absurd (hv2 e3 hc).1 (by decide)
                refine A_ild3 hC d_Mo_begin_89 ?_
                refine A_ifeq (tgt := 163) hC d_Mo_begin_90 (by decide) (fun h90 => ?_) (fun h90 => ?_)
                · exact failed N1 _ (fC_t hf hf1) hno
                · exact absurd rfl h90
              · subst hv0
                cases hc : cI B ty (B (20 + (q0 : Int)) 6) 61 (20 + (q0 : Int) - 20 + 1) es2 with
                | none => exact absurd (hv1 hc) (by decide)
                | some e3 =>
                  obtain ⟨-, ⟨SL3, g1, g2⟩, g3⟩ := hv2 e3 hc
                  rw [hc] at hq
                  have hac := cI_ac hP (ty := ty) hpc hdn hd4 61 _ es2 e3 (by omega) (fun c hc => ⟨(hin2 c hc).1, Or.inl (hin2 c hc).2⟩) hA2 hc
                  have hep := cI_ep hP (ty := ty) hpc hd4 61 _ es2 e3 (by omega) (fun c hc => Or.inl (hin2 c hc).2) hE2 hc
                  refine next N1 e3 SL3 (fC_t hf hf1) g1 g2 hep.1 hac.2 (fun c' hc' => ?_) (fun c' hc' => (g3 c' hc').elim (fun w => hT2 c' w) id) hq
                  have := hac.1 c' hc'
                  rw [List.filter_append, List.map_append, List.filter_cons_of_pos (p := fun p : Int × Nat => p.2 == k) (a := (c, k')) hkk, hq0]
                  exact this
  refine A_ild2 hC d_Mo_begin_67 ?_
  refine A_ifgt (tgt := 80) hC d_Mo_begin_68 (by decide) (fun h68 => ?_) (fun h68 => ?_)
  · refine A_iconst hC d_Mo_begin_80 (by decide) ?_
    refine A_goto (tgt := 85) hC d_Mo_begin_81 (by decide) ?_
    refine A_ist3 hC d_Mo_begin_85 ?_
    refine A_iconst hC d_Mo_begin_86 (by decide) ?_
    refine A_ist4 hC d_Mo_begin_87 ?_
    refine loop SLP [] M0 [] [] rfl fC_r hIR ini_SL EPC_0 (fun p hp => absurd hp (by simp)) (fun c hc => absurd hc (by simp)) (fun c hc => absurd hc (by simp)) ?_
    rw [hfil]
  · exact absurd h68 (by omega)
