-- ===== the reference: one step of the work, as a machine of levels
def nxtF (f : RF) : RF := (f.1, f.2.1, f.2.2.1 + 1, f.2.2.2.1, f.2.2.2.2.1, f.2.2.2.2.2)
def badF (f : RF) (b : Int) : RF := (f.1, f.2.1, f.2.2.1, f.2.2.2.1, f.2.2.2.2.1, b)
def imF (f : RF) (i : Int) : RF := (f.1, f.2.1, f.2.2.1, i, f.2.2.2.2.1, f.2.2.2.2.2)
def bgn (B : Mem) (s : SA) (r : Int) (sets : List Int) (fs : List RF) : Int ⊕ (SA × List RF) := match cO B (B 7 (r - 1)) sets [] with
  | none => .inl (-4)
  | some es => match sayE 2 s with
    | .inl x => .inl x
    | .inr s1 => .inr (s1, (r, es, 0, -1, (s.1.length : Int), 0) :: fs)
/-- the level g when the one above it ended, bad or not -/
def bkG (B : Mem) (bd : Int) (g : RF) : RF := if ¬ bd = 0 ∧ ¬ B (hdF g) 8 = 0 then badF g 1 else g
def bkF (B : Mem) (bd : Int) (g : RF) : RF := if 0 ≤ g.2.2.2.1 then imF (bkG B bd g) (g.2.2.2.1 + 1) else nxtF (bkG B bd g)
def bkS (B : Mem) (bd : Int) : List RF → List RF
  | [] => []
  | g :: gs => bkF B bd g :: gs
def endS (B : Mem) (s : SA) (f : RF) (fs : List RF) : Int ⊕ (SA × List RF) := match sayE 3 s with
  | .inl x => .inl x
  | .inr s1 => .inr (if f.2.2.2.2.2 = 0 then s1 else (s1.1.take f.2.2.2.2.1.toNat ++ [1], s1.2.1, s1.2.2), bkS B f.2.2.2.2.2 fs)
def manS (B : Mem) (s : SA) (f : RF) (fs : List RF) : Int ⊕ (SA × List RF) := if f.2.2.2.1 < B 9 (celE B f.1 (hdF f)) then bgn B s (B 10 (celE B f.1 (hdF f) * 4 + f.2.2.2.1)) (f.2.1.getD f.2.2.1 []) (f :: fs) else match sayE 5 s with
  | .inl x => .inl x
  | .inr s1 => .inr (s1, nxtF (imF f (-1)) :: fs)
def plnS (c : Int) (s : SA) (f : RF) (fs : List RF) : Int ⊕ (SA × List RF) := match sayE c s with
  | .inl x => .inl x
  | .inr s1 => .inr (s1, nxtF f :: fs)
def nonS (B : Mem) (s : SA) (f : RF) (fs : List RF) : Int ⊕ (SA × List RF) := if B (hdF f) 8 = 0 then plnS 1 s f fs else plnS 1 (s.1, s.2.1, s.2.2 ++ [preF B fs ++ [B (hdF f) 2]]) (badF f 1) fs
def valS (B : Mem) (s : SA) (f : RF) (fs : List RF) : Int ⊕ (SA × List RF) :=
  if B (hdF f) 1 = 2 then plnS (2000 + B 7 (f.1 - 1)) s f fs
  else if B (hdF f) 7 = 2 then (match sayE 4 s with | .inl x => .inl x | .inr s1 => .inr (s1, imF f 0 :: fs))
  else if B (hdF f) 7 = 1 then (if B 9 (celE B f.1 (hdF f)) = 0 then nonS B s f fs else bgn B s (B 10 (celE B f.1 (hdF f) * 4 + 0)) (f.2.1.getD f.2.2.1 []) (f :: fs))
  else (if B 8 (celE B f.1 (hdF f)) = -1 then nonS B s f fs else plnS (1000 + B 8 (celE B f.1 (hdF f))) s f fs)
def stp (B : Mem) (s : SA) (f : RF) (fs : List RF) : Int ⊕ (SA × List RF) := if f.2.2.1 = f.2.1.length then endS B s f fs else if 0 ≤ f.2.2.2.1 then manS B s f fs else match sayE (10 + B (hdF f) 2) s with
  | .inl x => .inl x
  | .inr s1 => valS B s1 f fs
/-- what a step of the reference leaves -/
def OUT (E B : Mem) (t : Int) (R : Int ⊕ (SA × List RF)) (v : Int) (N N' : Mem) : Prop := fL 0 N N' ∧ match R with
  | .inl x => v = x
  | .inr q => v = 0 ∧ RSt E B t N' q.1 q.2
/-- where the codes of the levels start -/
def STK : Int → List RF → Prop
  | _, [] => True
  | u, f :: fs => 0 ≤ f.2.2.2.2.1 ∧ f.2.2.2.2.1 ≤ u ∧ STK f.2.2.2.2.1 fs
/-- what else holds of the class's tables -/
def EXB (E B : Mem) (t : Int) (m : Nat) : Prop := CTX E B t m ∧ ROW B ∧ LKT E
theorem EXB_e {E B : Mem} {t : Int} {m : Nat} (h : EXB E B t m) {c : Int} (hc : c < 17) (y : Int) : B c y = E c y := h.1.2.2.1.2.1 c y hc
/-- the SETS of an OBJECT, for a row that its field links to -/
theorem CHILD {E B : Mem} {t : Int} {m L : Nat} (hX : EXB E B t m) {N : Mem} {j : Int} {f : RF} (hF : RFR E B t N j f) (hV : FV E B t m L f) (hk : f.2.2.1 < f.2.1.length) (h1 : B (hdF f) 1 = 1) {a : Int} (ha : 0 ≤ a ∧ a < B 9 (celE B f.1 (hdF f))) : SETP B ((m : Int) + 1) (f.2.1.getD f.2.2.1 []) ∧ SETC E t m (E 7 (B 10 (celE B f.1 (hdF f) * 4 + a) - 1)) (f.2.1.getD f.2.2.1 []) ∧ (1 ≤ B 10 (celE B f.1 (hdF f) * 4 + a) ∧ B 10 (celE B f.1 (hdF f) * 4 + a) ≤ 12) ∧ L + 2 ≤ 13 ∧ f.2.1.getD f.2.2.1 [] ∈ f.2.1 ∧ B 10 (celE B f.1 (hdF f) * 4 + a) ≤ E 6 4 := by
  obtain ⟨g1, g2, g3, g4, g5⟩ := FV_h hX.1 hV hk
  obtain ⟨hr, ⟨e1, e2, e3⟩, -⟩ := hV
  have hb := g5 (by omega)
  have hm : f.2.1.getD f.2.2.1 [] ∈ f.2.1 := by
    rw [List.getD_eq_getElem?_getD, List.getElem?_eq_getElem hk]
    exact List.getElem_mem hk
  have fl : ∀ c ∈ f.2.1.getD f.2.2.1 [], c ∈ f.2.1.flatten := fun c hc => List.mem_flatten.mpr ⟨_, hm, hc⟩
  have hcel : 0 ≤ celE B f.1 (hdF f) ∧ celE B f.1 (hdF f) < 48 := by unfold celE; omega
  have h9 := hX.2.1.2.1 (celE B f.1 (hdF f))
  obtain ⟨SL0, -, -, -, hrb⟩ := hF.2.1
  obtain ⟨hlk, hlb⟩ := hX.2.2 f.1 (B (hdF f) 3) a hr.1 hrb hb.1 hb.2 ha.1 (by rw [← EXB_e hX (by decide)]; exact ha.2)
  have hcl : E 10 (((f.1 - 1) * 4 + B (hdF f) 3) * 4 + a) = B 10 (celE B f.1 (hdF f) * 4 + a) := (EXB_e hX (by decide) _).symm
  rw [hcl] at hlk hlb
  have key : ∀ p ∈ f.2.1.getD f.2.2.1 [], ∃ (q c : Nat) (x : Fr) (R : List Fr), p = 20 + (q : Int) ∧ CLS E t m q x R c ∧ x.2.1 = -1 ∧ x.1 = tO E (E 7 (f.1 - 1)) (B (hdF f) 3) := fun p hp => by
    obtain ⟨p1, p2, p3⟩ := e3 p (fl p hp)
    obtain ⟨⟨q1, -⟩, q3⟩ := e1.2.2.2 _ hm p hp
    have hp1 : B p 1 = 1 := q1.trans h1
    have hp3 : B p 3 = B (hdF f) 3 := q3.resolve_left (by omega)
    obtain ⟨k, rfl⟩ : ∃ k : Nat, p = 20 + ((k : Int) + 1) := ⟨(p - 21).toNat, by omega⟩
    have hst := hX.1.2.2.1.2.2.1 k (by omega)
    have ho : E 13 (tI E t k) = 1 := by rw [← hst.1]; exact hp1
    obtain ⟨x, R, c, hc⟩ := CTX_c hX.1 (q := k + 1) (by omega) (Or.inr ⟨k, rfl, Or.inl (Or.inl ho)⟩)
    obtain ⟨x', z1, z2, z3, -⟩ := tS_push (E := E) (t := t) (k := k) (Or.inl (Or.inl ho))
    have hxx : x = x' := by have := hc.1.1; rw [this] at z1; simp at z1; exact z1.1
    refine ⟨k + 1, c, x, R, by omega, hc, by rw [hxx]; exact z3 (Or.inl ho), ?_⟩
    rw [hxx, tS_ty z1 z2, ← hst.2.2.2.2.1, (hF.2.2.2.2 _ (fl _ hp)).2.1 hp1 |>.1, hp3]
  refine ⟨⟨fun c hc => by have := (e3 c (fl c hc)).2.1; omega, fun p hp c hc => e2 p (fl p hp) c (fl c hc), fl_nodup e1.2.1 hm⟩, fun p hp => ?_, hX.2.1.2.2.1 _ a hcel.1 hcel.2 ha.1 ha.2, ?_, hm, hlb⟩
  · obtain ⟨q, c, x, R, y1, y2, y3, y4⟩ := key p hp
    exact ⟨q, c, x, R, y1, y2, y3, by rw [y4]; rcases hlk with w | w; exact Or.inl w; exact Or.inr w.symm⟩
  · have hd := (e3 _ g1).2.2 h1
    have := dep_le hX.1.1 hX.1.2.2.2.2.2.2.1 hX.1.2.2.2.2.2.2.2 hX.1.2.2.2.1 hX.1.2.2.2.2.2.1 (j := (hdF f - 20).toNat) (by have := (e3 _ g1).2.1; omega)
    omega
/-- a level that begins -/
theorem BEG_bgn {E B : Mem} {t : Int} {m : Nat} (hX : EXB E B t m) {N N' : Mem} {r v : Int} {sets : List Int} {s : SA} {fs : List RF} (hP : SETP B ((m : Int) + 1) sets) (hR : REFT E N) (hFS : RFS E B t N fs) (hre : r ≤ E 6 4) (h : BEG E B t (fs.length : Int) r (E 7 (r - 1)) sets s v N N') : OUT E B t (bgn B s r sets fs) v N N' := by
  obtain ⟨h1, h2, h3⟩ := h
  have h30 : fL 0 N N' := fL_le (by omega) h3
  have e7 : B 7 (r - 1) = E 7 (r - 1) := EXB_e hX (by decide) _
  refine ⟨h30, ?_⟩
  unfold bgn
  rw [e7]
  cases hc : cO B (E 7 (r - 1)) sets [] with
  | none => exact h1 hc
  | some es =>
    obtain ⟨g1, g2⟩ := h2 es hc
    dsimp only
    cases hs : sayE 2 s with
    | inl x =>
      have hx : x = -5 := by unfold sayE at hs; split at hs; cases hs; rfl; cases hs
      rw [hx] at hs ⊢
      exact g1 hs
    | inr s1 =>
      obtain ⟨k1, k2, k3, ⟨k4, k5, k6, k7, k8⟩, ⟨SL, k9, k10⟩, k11⟩ := g2 s1 hs
      obtain ⟨c1, c2, c3⟩ := cO_full (CTX_P hX.1) hP hc
      have hPl := CTX_P hX.1
      have hrg : ∀ c ∈ es.flatten, 20 < c ∧ c < 20 + ((m : Int) + 1) := fun c hc => inR_rg hPl hP.1 (c2 c hc).2
      have l60 := fl_len hPl c1.2.1 hrg
      refine ⟨k1, REFT_f h30 hR, k2, by rw [k3]; simp, ⟨k4, ⟨SL, k9, k10, Nat.le_trans k10.2.2 l60, hre⟩, ⟨by rw [k5]; rfl, k6, k7, k8⟩, nm_len c1 (fun c hc => (hPl.2.2 c (hrg c hc).1 (hrg c hc).2).2.2.2 (c2 c hc).1), k11⟩, RFS_f (Int.le_refl _) h3 hFS⟩
theorem mSay_f {N : Mem} {c : Int} (h : N 88 30 = 120) : mSay N c = N := by unfold mSay; rw [if_pos h]
theorem mSay_n {N : Mem} {c a y : Int} (h : ¬ (a = 114 ∨ (a = 88 ∧ (y = 30 ∨ y = 31)))) : mSay N c a y = N a y := by
  unfold mSay
  split
  · rfl
  · rw [up_nc_or (by omega), up_nc (by omega), up_nc_or (by omega)]
set_option maxHeartbeats 4000000 in
theorem k_Mo_nothing0 (l : Launch) (n : Nat) (M : Mem) (hn : 117 ≤ n) (E B : Mem) (t : Int) (m : Nat) (hX : EXB E B t m) (L : Nat) (f : RF) (j : Int) (hj : 0 ≤ j ∧ j ≤ 13) (hT : REFT E M) (hF : RFR E B t M j f) (hV : FV E B t m L f) (hk : f.2.2.1 < f.2.1.length) (h2 : B (hdF f) 1 ≠ 2) : AF l m_Mo_nothing 4 [.inr 88, .inl j, .inl 0] n M none (if B (hdF f) 8 = 0 then M else up M 113 j 1) := by
  refine AM_intro (by decide) (Nat.le_of_ble_eq_true rfl) (fun X b0 D hC _ => ?_)
  show AW X b0 D true 0 0 _ n M 0 [some (.inr 88), some (.inl j), some (.inl 0)] []
  have hkd := REF_k hX.1 hT hF hV hk h2
  have hMB := hT.2.1
  have h110 := hF.2.2.1.1
  have hl10 := hF.2.2.2.1
  have h102 : 0 ≤ M 102 j ∧ M 102 j ≤ 12 := by rw [hF.1]; have := hV.1; omega
  have hw : 0 ≤ M 106 (10 * j + M 110 j) ∧ M 106 (10 * j + M 110 j) ≤ 3 := by rw [(RFR_h hF hk).2.2 h2]; exact (FV_h hX.1 hV hk).2.2.2.2 h2
  refine A_ald0 hC d_Mo_nothing_0 ?_
  refine A_ald0 hC d_Mo_nothing_1 ?_
  refine A_getCR (v := 102) hC d_Mo_nothing_2 fF_Mo_54 ⟨by decide, rfl⟩ ly_88 (by omega) ⟨rfl, by decide⟩ cv_88_18 ?_
  refine A_ild1 hC d_Mo_nothing_5 ?_
  refine A_iald hC d_Mo_nothing_6 ly_102 (by omega) (by omega) ?_
  refine A_ald0 hC d_Mo_nothing_7 ?_
  refine A_getCR (v := 106) hC d_Mo_nothing_8 fF_Mo_66 ⟨by decide, rfl⟩ ly_88 (by omega) ⟨rfl, by decide⟩ cv_88_22 ?_
  refine A_ald0 hC d_Mo_nothing_11 ?_
  refine A_ild1 hC d_Mo_nothing_12 ?_
  refine A_VF1 (as := [.inl j]) hC d_Mo_nothing_13 mv_Mo_entry lk_Mo_172 (by decide) sel_Mo_entry hq_Mo ly_88 (by omega) (k_Mo_entry l n M hn j (by omega) (by omega)) rfl rfl (Nat.le_of_ble_eq_true rfl) ⟨Nat.zero_le _, Nat.zero_le _⟩ rfl ?_
  refine A_iald hC d_Mo_nothing_16 ly_106 (by omega) (by omega) ?_
  refine A_iconst hC d_Mo_nothing_17 (by decide) ?_
  refine A_VF1 (as := [.inl (M 102 j), .inl (M 106 (10 * j + M 110 j)), .inl 2]) hC d_Mo_nothing_18 mv_Mo_of lk_Mo_113 (by decide) sel_Mo_of hq_Mo ly_88 (by omega) (k_Mo_of l n M hn hMB (M 102 j) (M 106 (10 * j + M 110 j)) 2 h102 hw (by decide)) rfl rfl (Nat.le_of_ble_eq_true rfl) ⟨Nat.zero_le _, Nat.zero_le _⟩ rfl ?_
  refine A_ifne (tgt := 25) hC d_Mo_nothing_21 (by decide) (fun h21 => ?_) (fun h21 => ?_)
  · refine A_ald0 hC d_Mo_nothing_25 ?_
    refine A_getCR (v := 113) hC d_Mo_nothing_26 fF_Mo_87 ⟨by decide, rfl⟩ ly_88 (by omega) ⟨rfl, by decide⟩ cv_88_29 ?_
    refine A_ild1 hC d_Mo_nothing_29 ?_
    refine A_iconst hC d_Mo_nothing_30 (by decide) ?_
    refine A_zast hC d_Mo_nothing_31 ly_113 (by omega) (by omega) (fun _ => kk_z _) (by first | decide | omega) ?_
    refine A_ild2 hC d_Mo_nothing_32 ?_
    refine A_ifeq (tgt := 40) hC d_Mo_nothing_33 (by decide) (fun h33 => ?_) (fun h33 => ?_)
    · refine A_vret hC d_Mo_nothing_40 rfl (Nat.le_refl _) (Nat.le_refl _) ?_
      exact ⟨rfl, rfl, by rw [if_neg (fun w => h21 (hkd.2.2.1.mpr w))]⟩
    · exact absurd rfl h33
  · refine A_vret hC d_Mo_nothing_24 rfl (Nat.le_refl _) (Nat.le_refl _) ?_
    exact ⟨rfl, rfl, by rw [if_pos (hkd.2.2.1.mp h21)]⟩
set_option maxHeartbeats 4000000 in
theorem k_Mo_nothing1 (l : Launch) (n : Nat) (M : Mem) (hn : 117 ≤ n) (E B : Mem) (t : Int) (m : Nat) (hX : EXB E B t m) (s : SA) (h60 : s.2.2.length ≤ 60) (f : RF) (fs : List RF) (hR : RSt E B t M s (f :: fs)) (hVA : VAL E B t m (f :: fs)) (hk : f.2.2.1 < f.2.1.length) (h2 : B (hdF f) 1 ≠ 2) (hl : fs.length ≤ 12) : AR l m_Mo_nothing 4 [.inr 88, .inl ((fs.length : Int)), .inl 1] n M none (fun M' => (B (hdF f) 8 = 0 → M' = M) ∧ (¬ B (hdF f) 8 = 0 → M' 113 (fs.length : Int) = 1 ∧ (∀ c y : Int, ¬ (c = 115 ∨ c = 116 ∨ (c = 88 ∧ y = 33) ∨ (c = 113 ∧ y = (fs.length : Int))) → M' c y = M c y) ∧ CD M' (s.1, s.2.1, s.2.2 ++ [preF B fs ++ [B (hdF f) 2]]))) := by
  refine AM_intro (by decide) (Nat.le_of_ble_eq_true rfl) (fun X b0 D hC _ => ?_)
  show AW X b0 D true 0 0 _ n M 0 [some (.inr 88), some (.inl ((fs.length : Int))), some (.inl 1)] []
  obtain ⟨hT, hCD, h17, hF, hFS⟩ := id hR
  have hV := hVA.1
  generalize hj : (fs.length : Int) = j at hF
  have hkd := REF_k hX.1 hT hF hV hk h2
  have hMB := hT.2.1
  have h110 := hF.2.2.1.1
  have hl10 := hF.2.2.2.1
  have h102 : 0 ≤ M 102 j ∧ M 102 j ≤ 12 := by rw [hF.1]; have := hV.1; omega
  have hw : 0 ≤ M 106 (10 * j + M 110 j) ∧ M 106 (10 * j + M 110 j) ≤ 3 := by rw [(RFR_h hF hk).2.2 h2]; exact (FV_h hX.1 hV hk).2.2.2.2 h2
  have hj2 : 0 ≤ j ∧ j ≤ 12 := by omega
  have hf1 : fL j M (up M 113 j 1) := fun c y q => up_nc_or (by omega)
  have hR1 : RSt E B t (up M 113 j 1) s (badF f 1 :: fs) := by
    refine ⟨REFT_f (fL_le (by omega) hf1) hT, CD_eq (fun c y q => up_nc (by omega)) hCD, by rw [up_nc (by decide)]; exact h17, ?_, RFS_f (by omega) hf1 hFS⟩
    rw [hj]
    exact RFR_set (fun c y c1 c2 c3 c4 c5 => up_nc c5) (by rw [up_nc (by decide)]; exact h110) (by rw [up_nc (by decide)]; exact hF.2.2.1.2.1) (up_eq _ _ _ _) hF
  have hV1 : VAL E B t m (badF f 1 :: fs) := ⟨⟨hV.1, hV.2.1, hV.2.2.1, Or.inr rfl, hV.2.2.2.2⟩, hVA.2⟩
  refine A_ald0 hC d_Mo_nothing_0 ?_
  refine A_ald0 hC d_Mo_nothing_1 ?_
  refine A_getCR (v := 102) hC d_Mo_nothing_2 fF_Mo_54 ⟨by decide, rfl⟩ ly_88 (by omega) ⟨rfl, by decide⟩ cv_88_18 ?_
  refine A_ild1 hC d_Mo_nothing_5 ?_
  refine A_iald hC d_Mo_nothing_6 ly_102 (by omega) (by omega) ?_
  refine A_ald0 hC d_Mo_nothing_7 ?_
  refine A_getCR (v := 106) hC d_Mo_nothing_8 fF_Mo_66 ⟨by decide, rfl⟩ ly_88 (by omega) ⟨rfl, by decide⟩ cv_88_22 ?_
  refine A_ald0 hC d_Mo_nothing_11 ?_
  refine A_ild1 hC d_Mo_nothing_12 ?_
  refine A_VF1 (as := [.inl j]) hC d_Mo_nothing_13 mv_Mo_entry lk_Mo_172 (by decide) sel_Mo_entry hq_Mo ly_88 (by omega) (k_Mo_entry l n M hn j (by omega) (by omega)) rfl rfl (Nat.le_of_ble_eq_true rfl) ⟨Nat.zero_le _, Nat.zero_le _⟩ rfl ?_
  refine A_iald hC d_Mo_nothing_16 ly_106 (by omega) (by omega) ?_
  refine A_iconst hC d_Mo_nothing_17 (by decide) ?_
  refine A_VF1 (as := [.inl (M 102 j), .inl (M 106 (10 * j + M 110 j)), .inl 2]) hC d_Mo_nothing_18 mv_Mo_of lk_Mo_113 (by decide) sel_Mo_of hq_Mo ly_88 (by omega) (k_Mo_of l n M hn hMB (M 102 j) (M 106 (10 * j + M 110 j)) 2 h102 hw (by decide)) rfl rfl (Nat.le_of_ble_eq_true rfl) ⟨Nat.zero_le _, Nat.zero_le _⟩ rfl ?_
  refine A_ifne (tgt := 25) hC d_Mo_nothing_21 (by decide) (fun h21 => ?_) (fun h21 => ?_)
  · refine A_ald0 hC d_Mo_nothing_25 ?_
    refine A_getCR (v := 113) hC d_Mo_nothing_26 fF_Mo_87 ⟨by decide, rfl⟩ ly_88 (by omega) ⟨rfl, by decide⟩ cv_88_29 ?_
    refine A_ild1 hC d_Mo_nothing_29 ?_
    refine A_iconst hC d_Mo_nothing_30 (by decide) ?_
    refine A_zast hC d_Mo_nothing_31 ly_113 (by omega) (by omega) (fun _ => kk_z _) (by first | decide | omega) ?_
    refine A_ild2 hC d_Mo_nothing_32 ?_
    refine A_ifeq (tgt := 40) hC d_Mo_nothing_33 (by decide) (fun h33 => ?_) (fun h33 => ?_)
    · exact absurd h33 (by decide)
    · refine A_ald0 hC d_Mo_nothing_36 ?_
      refine A_VR0 (as := []) hC d_Mo_nothing_37 mv_Mo_note lk_Mo_181 (by decide) sel_Mo_note hq_Mo ly_88 (by omega) (k_Mo_note l n (up M 113 j 1) hn E B t m hX.1 s h60 (badF f 1) fs hR1 hV1 hk hl hX.2.1) rfl rfl (Nat.le_of_ble_eq_true rfl) ⟨Nat.zero_le _, Nat.zero_le _⟩ rfl (fun N1 hN => ?_)
      obtain ⟨hN1, hN2⟩ := hN
      refine A_vret hC d_Mo_nothing_40 rfl (Nat.le_refl _) (Nat.le_refl _) ?_
      refine ⟨rfl, rfl, fun w => absurd (hkd.2.2.1.mpr w) h21, fun _ => ⟨?_, fun c y q => ?_, hN2⟩⟩
      · rw [hN1 113 j (by omega), up_eq]
      · rw [hN1 c y (by omega), up_nc_or (by omega)]
  · refine A_vret hC d_Mo_nothing_24 rfl (Nat.le_refl _) (Nat.le_refl _) ?_
    exact ⟨rfl, rfl, fun _ => rfl, fun w => absurd (hkd.2.2.1.mp h21) w⟩
