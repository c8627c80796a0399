-- ===== the plan that a check leaves is nested
theorem tS_push {E : Mem} {t : Int} {k : Nat} (h : opnP (E 13 (tI E t k)) ∨ E 13 (tI E t k) = 5) : ∃ x : Fr, tS E t (k + 1) = x :: tS E t k ∧ x.2.2 = (k : Int) + 1 ∧ (opnP (E 13 (tI E t k)) → x.2.1 = -1) ∧ (E 13 (tI E t k) = 5 → x.2.1 = tI E t k + 1) := by
  rw [tS_s]
  unfold nxS
  rcases h with (h | h | h) | h
  · rw [if_pos h]; exact ⟨_, rfl, rfl, fun _ => rfl, fun q => by omega⟩
  · rw [if_neg (by omega), if_pos h]; exact ⟨_, rfl, rfl, fun _ => rfl, fun q => by omega⟩
  · rw [if_neg (by omega), if_neg (by omega), if_pos h]; exact ⟨_, rfl, rfl, fun _ => rfl, fun q => by omega⟩
  · rw [if_neg (by omega), if_neg (by omega), if_neg (by omega), if_pos h]; exact ⟨_, rfl, rfl, fun q => by rcases q with q | q | q <;> omega, fun _ => rfl⟩
theorem tS_end {E : Mem} {t : Int} {k : Nat} (h : E 13 (tI E t k) = 6) : tS E t (k + 1) = (tS E t k).tail := by
  rw [tS_s]
  unfold nxS
  rw [if_neg (by omega), if_neg (by omega), if_neg (by omega), if_neg (by omega), if_pos h]
theorem tS_same {E : Mem} {t : Int} {k : Nat} (h : ¬ (opnP (E 13 (tI E t k)) ∨ E 13 (tI E t k) = 5)) (h6 : E 13 (tI E t k) ≠ 6) : tS E t (k + 1) = tS E t k := by
  rw [tS_s]
  unfold nxS
  rw [if_neg (fun q => h (Or.inl (Or.inl q))), if_neg (fun q => h (Or.inl (Or.inr (Or.inl q)))), if_neg (fun q => h (Or.inl (Or.inr (Or.inr q)))), if_neg (fun q => h (Or.inr q)), if_neg h6]
theorem tS_le {E : Mem} {t : Int} {j : Nat} {y : Fr} (h : y ∈ tS E t j) : 0 ≤ y.2.2 ∧ y.2.2 ≤ (j : Int) := by
  obtain ⟨A, R, e⟩ := List.append_of_mem h
  rcases tS_sd j A y R e with ⟨rfl, -⟩ | ⟨k, h1, h2, -⟩
  · exact ⟨Int.le_refl 0, by show (0 : Int) ≤ j; omega⟩
  · omega
theorem clo_self {E : Mem} {t : Int} (q : Nat) : clo E t q q = q := by
  cases q with
  | zero => rfl
  | succ q =>
    unfold clo
    rw [if_neg, clo_new q _ (by omega)]
    rintro ⟨-, h⟩
    cases hs : tS E t q with
    | nil => rw [hs] at h; have : (0 : Int) = ((q + 1 : Nat) : Int) := h; omega
    | cons x R => rw [hs] at h; have h1 := tS_op hs; have h : x.2.2 = ((q + 1 : Nat) : Int) := h; omega
/-- an open SET stays open, on top of what was open then, until its END -/
theorem LIFE {E : Mem} {t : Int} {m : Nat} (hm : ∀ i : Nat, i < m → tS E t i ≠ []) {q : Nat} {x : Fr} {R : List Fr} (hx : tS E t q = x :: R) (hq : x.2.2 = (q : Int)) (hR : ∀ y ∈ R, y.2.2 < (q : Int)) : ∀ e : Nat, q + e ≤ m →
    ((∀ i : Nat, q ≤ i → i ≤ q + e → ∃ A, tS E t i = A ++ x :: R) ∧ clo E t (q + e) q = q) ∨ ∃ c : Nat, q ≤ c ∧ c < q + e ∧ (∀ i : Nat, q ≤ i → i ≤ c → ∃ A, tS E t i = A ++ x :: R) ∧ tS E t c = x :: R ∧ E 13 (tI E t c) = 6 ∧ tS E t (c + 1) = R ∧ clo E t (q + e) q = (c : Int) + 1 ∧ ∀ y ∈ tS E t (q + e), y.2.2 < (q : Int) ∨ (c : Int) + 1 < y.2.2 := by
  intro e
  induction e with
  | zero => exact fun _ => Or.inl ⟨fun i h1 h2 => ⟨[], by rw [show i = q by omega]; exact hx⟩, clo_self q⟩
  | succ e ih =>
    intro hle
    have hcl : clo E t (q + (e + 1)) q = if E 13 (tI E t (q + e)) = 6 ∧ (topF (tS E t (q + e))).2.2 = q then ((q + e : Nat) : Int) + 1 else clo E t (q + e) q := rfl
    rcases ih (by omega) with ⟨h1, h2⟩ | ⟨c, h1, h2, h3, h4, h5, h6, h7, h8⟩
    · obtain ⟨A, hA⟩ := h1 (q + e) (by omega) (Nat.le_refl _)
      have ext : (∃ A, tS E t (q + e + 1) = A ++ x :: R) → ∀ i : Nat, q ≤ i → i ≤ q + (e + 1) → ∃ A, tS E t i = A ++ x :: R := fun h i i1 i2 => by
        by_cases z : i = q + e + 1
        · rw [z]; exact h
        · exact h1 i i1 (by omega)
      by_cases o6 : E 13 (tI E t (q + e)) = 6
      · have hs := tS_end o6
        cases A with
        | nil =>
          rw [hA] at hs
          refine Or.inr ⟨q + e, by omega, by omega, h1, hA, o6, hs, ?_, fun y hy => Or.inl (hR y (by rw [show q + (e + 1) = q + e + 1 by omega, hs] at hy; exact hy))⟩
          rw [hcl, if_pos ⟨o6, by rw [hA]; exact hq⟩]
        | cons a A =>
          rw [hA] at hs
          refine Or.inl ⟨ext ⟨A, hs⟩, ?_⟩
          rw [hcl, if_neg, h2]
          rintro ⟨-, w⟩
          rw [hA] at w
          have w : a.2.2 = (q : Int) := w
          rcases tS_sd (q + e) [] a (A ++ x :: R) hA with ⟨-, z⟩ | ⟨k, k1, k2, k3, -⟩
          · simp at z
          · have hxm : x ∈ tS E t k := by rw [← k3]; simp
            have := tS_le hxm
            omega
      · have h2' : clo E t (q + (e + 1)) q = q := by rw [hcl, if_neg (fun w => o6 w.1), h2]
        by_cases op : opnP (E 13 (tI E t (q + e))) ∨ E 13 (tI E t (q + e)) = 5
        · obtain ⟨y, hy, -⟩ := tS_push op
          exact Or.inl ⟨ext ⟨y :: A, by rw [hy, hA]; rfl⟩, h2'⟩
        · exact Or.inl ⟨ext ⟨A, by rw [tS_same op o6]; exact hA⟩, h2'⟩
    · have hne : tS E t (q + e) ≠ [] := hm _ (by omega)
      obtain ⟨y0, R0, hy0⟩ : ∃ y0 R0, tS E t (q + e) = y0 :: R0 := by
        cases hs : tS E t (q + e) with
        | nil => exact absurd hs hne
        | cons a b => exact ⟨a, b, rfl⟩
      refine Or.inr ⟨c, h1, by omega, h3, h4, h5, h6, ?_, fun y hy => ?_⟩
      · rw [hcl, if_neg, h7]
        rintro ⟨-, w⟩
        rw [hy0] at w
        have w : y0.2.2 = (q : Int) := w
        have := h8 y0 (by rw [hy0]; exact List.mem_cons_self)
        omega
      · rw [show q + (e + 1) = q + e + 1 by omega] at hy
        by_cases o6 : E 13 (tI E t (q + e)) = 6
        · rw [tS_end o6] at hy
          exact h8 y (List.mem_of_mem_tail hy)
        · by_cases op : opnP (E 13 (tI E t (q + e))) ∨ E 13 (tI E t (q + e)) = 5
          · obtain ⟨z, hz, hz2, -⟩ := tS_push op
            rw [hz] at hy
            rcases List.mem_cons.mp hy with rfl | hy
            · exact Or.inr (by omega)
            · exact h8 y hy
          · rw [tS_same op o6] at hy
            exact h8 y hy
/-- step q opens a SET: root, or its token does -/
def opQ (E : Mem) (t : Int) (q : Nat) : Prop := q = 0 ∨ ∃ k : Nat, q = k + 1 ∧ (opnP (E 13 (tI E t k)) ∨ E 13 (tI E t k) = 5)
/-- what is known of the SET that step q opens, its frame x on top of R: its END is token c, step c + 1 -/
def CLS (E : Mem) (t : Int) (m q : Nat) (x : Fr) (R : List Fr) (c : Nat) : Prop := (tS E t q = x :: R ∧ x.2.2 = (q : Int)) ∧ q ≤ c ∧ c < m ∧ (∀ i : Nat, q ≤ i → i ≤ c → ∃ A, tS E t i = A ++ x :: R) ∧ tS E t c = x :: R ∧ E 13 (tI E t c) = 6 ∧ tS E t (c + 1) = R ∧ clo E t m q = (c : Int) + 1
theorem CLS_of {E : Mem} {t : Int} {m : Nat} (hm : ∀ i : Nat, i < m → tS E t i ≠ []) (hz : tS E t m = []) {q : Nat} (hq : q ≤ m) (h : opQ E t q) : ∃ x R c, CLS E t m q x R c := by
  have key : ∀ (x : Fr) (R : List Fr), tS E t q = x :: R → x.2.2 = (q : Int) → (∀ y ∈ R, y.2.2 < (q : Int)) → ∃ x R c, CLS E t m q x R c := by
    intro x R h1 h2 h3
    have h4 := LIFE hm h1 h2 h3 (m - q) (by omega)
    rw [show q + (m - q) = m by omega] at h4
    rcases h4 with ⟨w, -⟩ | ⟨c, w1, w2, w3, w4, w5, w6, w7, -⟩
    · obtain ⟨A, hA⟩ := w m hq (Nat.le_refl _)
      rw [hz] at hA
      simp at hA
    · exact ⟨x, R, c, ⟨h1, h2⟩, w1, w2, w3, w4, w5, w6, w7⟩
  rcases h with rfl | ⟨k, rfl, h⟩
  · exact key (t, -1, 0) [] rfl rfl (fun y hy => absurd hy List.not_mem_nil)
  · obtain ⟨x, h1, h2, -⟩ := tS_push h
    exact key x (tS E t k) h1 (by rw [h2]; omega) (fun y hy => by have := tS_le hy; omega)
theorem clo_non {E : Mem} {t : Int} {q : Nat} (h : ¬ opQ E t q) : ∀ j : Nat, clo E t j q = q
  | 0 => rfl
  | j + 1 => by
    unfold clo
    rw [if_neg, clo_non h j]
    rintro ⟨-, w⟩
    have hq0 : q ≠ 0 := fun z => h (Or.inl z)
    cases hs : tS E t j with
    | nil => rw [hs] at w; have w : (0 : Int) = q := w; omega
    | cons x R =>
      rw [hs] at w
      have w : x.2.2 = (q : Int) := w
      rcases tS_sd j [] x R hs with ⟨rfl, -⟩ | ⟨k, k1, k2, -, -, k3⟩
      · have w : (0 : Int) = q := w; omega
      · exact h (Or.inr ⟨k, by omega, by rcases k3 with k3 | k3; exact Or.inl k3.1; exact Or.inr k3.1⟩)
theorem clo_rg {E : Mem} {t : Int} {m : Nat} (hm : ∀ i : Nat, i < m → tS E t i ≠ []) (hz : tS E t m = []) {q : Nat} (hq : q ≤ m) : (q : Int) ≤ clo E t m q ∧ clo E t m q ≤ m := by
  by_cases h : opQ E t q
  · obtain ⟨x, R, c, -, h1, h2, -, -, -, -, h3⟩ := CLS_of hm hz hq h
    omega
  · rw [clo_non h]; omega
theorem clo_nest {E : Mem} {t : Int} {m : Nat} (hm : ∀ i : Nat, i < m → tS E t i ≠ []) (hz : tS E t m = []) {q p : Nat} (hp : p ≤ m) (h1 : q < p) (h2 : (p : Int) < clo E t m q) : clo E t m p < clo E t m q := by
  by_cases hq : opQ E t q
  · obtain ⟨x, R, c, ⟨a1, a2⟩, a3, a4, a5, a6, a7, a8, a9⟩ := CLS_of hm hz (by omega) hq
    by_cases ho : opQ E t p
    · obtain ⟨k, rfl, ho2⟩ : ∃ k : Nat, p = k + 1 ∧ (opnP (E 13 (tI E t k)) ∨ E 13 (tI E t k) = 5) := by
        rcases ho with z | z
        · omega
        · exact z
      obtain ⟨y, S, d, ⟨b1, b2⟩, b3, b4, b5, b6, b7, b8, b9⟩ := CLS_of hm hz hp ho
      obtain ⟨y', hy', -⟩ := tS_push ho2
      have hS : y = y' ∧ S = tS E t k := by rw [b1] at hy'; simpa using hy'
      obtain ⟨A, hA⟩ := a5 k (by omega) (by omega)
      rw [a9, b9]
      by_cases hlt : d < c
      · omega
      · exfalso
        by_cases hdc : d = c
        · subst hdc
          rw [a6] at b6
          have : x = y := by simp at b6; exact b6.1
          rw [this] at a2
          omega
        · obtain ⟨A', hA'⟩ := b5 (c + 1) (by omega) (by omega)
          rw [a8, hS.2, hA] at hA'
          have := congrArg List.length hA'
          simp at this
          omega
    · rw [clo_non ho]; omega
  · rw [clo_non hq] at h2; omega
theorem ne_cons {α : Type} {L : List α} (h : L ≠ []) : ∃ a b, L = a :: b := by
  cases L with
  | nil => exact absurd rfl h
  | cons a b => exact ⟨a, b, rfl⟩
/-- the texts that are being gone through are different ones, and in use -/
def gT (G : List (Int × Int)) (u : Int → Int) : Prop := (G.map Prod.fst).Nodup ∧ ∀ p ∈ G, p.1 = 0 ∨ u p.1 = 1
theorem tGOK {E : Mem} {t : Int} {m : Nat} (hX : TXT E) (hg : gd (E 13) (E 12) 0 = 1) (hck : CK E t 0 = -1) (hm60 : m ≤ 60) (hm : ∀ i : Nat, i < m → tS E t i ≠ []) : ∀ j : Nat, j ≤ m → CK E t j = -1 ∧ ∃ G, gOK E G (tI E t j) (tS E t j) ∧ gT G (tU E t j)
  | 0, _ => ⟨hck, [(0, 1)], gOK_0 hX hg t, by simp, fun p hp => by simp at hp; exact Or.inl (by rw [hp])⟩
  | j + 1, hj => by
    obtain ⟨h1, G, h2, h3, h4⟩ := tGOK hX hg hck hm60 hm j (by omega)
    obtain ⟨x, R, hx⟩ := ne_cons (hm j (by omega))
    cases G with
    | nil => exact absurd h2 (hm j (by omega))
    | cons g G =>
      obtain ⟨T, d⟩ := g
      have hi := h2.2.2.1
      have hl := hX.1 T
      have hT := h2.1
      have hr : rgtP E x.1 (tI E t j) (tU E t j) := Classical.not_not.mp (fun q => by
        have := CK_bad hx (fun _ => q)
        omega)
      have htop : topF (tS E t j) = x := by rw [hx]; rfl
      have hk := hX.2 (tI E t j) (by omega) (by omega)
      obtain ⟨G', g1, g2⟩ := gOK_step hX (k := (j : Int) + 1) h2 (by rw [htop]; exact hr)
      refine ⟨by rw [← CK_s (by omega) hx hr]; exact h1, G', g1, ?_⟩
      rw [tU_s]
      unfold nxU
      simp only [List.map_cons, List.nodup_cons] at h3
      rcases g2 with ⟨rfl, o⟩ | ⟨rfl, -, o5, o6⟩ | ⟨rfl, o⟩ | ⟨g2, o⟩
      · have : E 13 (tI E t j) = 1 ∨ E 13 (tI E t j) = 3 ∨ E 13 (tI E t j) = 4 := o
        rw [if_neg (by omega), if_neg (by omega)]
        refine ⟨by simp only [List.map_cons, List.nodup_cons]; exact h3, fun p hp => ?_⟩
        rcases List.mem_cons.mp hp with rfl | hp
        · exact h4 (T, d) List.mem_cons_self
        · exact h4 _ (List.mem_cons_of_mem _ hp)
      · rw [if_neg o5, if_neg (fun q => o6 q.1)]
        exact ⟨by simp only [List.map_cons, List.nodup_cons]; exact h3, h4⟩
      · rw [if_pos o]
        have ho : 1 ≤ E 14 (tI E t j) ∧ E 14 (tI E t j) ≤ 3 := by omega
        have hu := (hr.2.2.2 o).2
        have hne : ∀ p ∈ (T, d) :: G, p.1 ≠ E 14 (tI E t j) := fun p hp q => by
          rcases h4 p hp with w | w
          · omega
          · rw [q] at w; omega
        refine ⟨?_, fun p hp => ?_⟩
        · simp only [List.map_cons, List.nodup_cons]
          refine ⟨fun q => ?_, h3⟩
          obtain ⟨p, p1, p2⟩ := List.mem_map.mp (show E 14 (tI E t j) ∈ ((T, d) :: G).map Prod.fst from q)
          exact hne p p1 p2
        · rcases List.mem_cons.mp hp with rfl | hp
          · exact Or.inr (if_pos rfl)
          · exact (h4 p hp).imp id (fun w => by dsimp only; rw [if_neg (hne p hp)]; exact w)
      · rw [if_neg (by omega)]
        obtain ⟨A, b, R', e1, e2, e3, e4⟩ := h2.2.2.2.2
        have hdr := h2.2.1
        rcases g2 with ⟨rfl, hd2⟩ | ⟨rfl, hd1⟩
        · have htb : x.2.1 = -1 := by
            cases A with
            | nil => simp at e2; omega
            | cons a A =>
              rw [hx] at e1
              simp at e1
              rw [e1.1]
              exact e3 a List.mem_cons_self
          rw [if_neg (by rw [htop]; omega)]
          refine ⟨by simp only [List.map_cons, List.nodup_cons]; exact h3, fun p hp => ?_⟩
          rcases List.mem_cons.mp hp with rfl | hp
          · exact h4 (T, d) List.mem_cons_self
          · exact h4 _ (List.mem_cons_of_mem _ hp)
        · refine ⟨h3.2, fun p hp => ?_⟩
          have h5 := h4 p (List.mem_cons_of_mem _ hp)
          split
          · refine h5.imp id (fun w => ?_)
            dsimp only
            rw [if_neg]
            · exact w
            · intro q
              have : p.1 = T := by omega
              exact h3.1 (List.mem_map.mpr ⟨p, hp, this⟩)
          · exact h5
theorem tI_rg {E : Mem} {t : Int} {m : Nat} (hX : TXT E) (hg : gd (E 13) (E 12) 0 = 1) (hck : CK E t 0 = -1) (hm60 : m ≤ 60) (hm : ∀ i : Nat, i < m → tS E t i ≠ []) {j : Nat} (hj : j < m) : 0 ≤ tI E t j ∧ tI E t j ≤ 63 := by
  obtain ⟨-, G, h2, -⟩ := tGOK hX hg hck hm60 hm j (by omega)
  cases G with
  | nil => exact absurd h2 (hm j hj)
  | cons g G =>
    obtain ⟨T, d⟩ := g
    have hi := h2.2.2.1
    have hl := hX.1 T
    have hT := h2.1
    omega
/-- how many SETS are open that a token of its own text closes -/
def cntN : List Fr → Nat
  | [] => 0
  | x :: r => (if x.2.1 = -1 then 1 else 0) + cntN r
theorem cntN_app : ∀ (A R : List Fr), cntN (A ++ R) = cntN A + cntN R
  | [], R => by simp [cntN]
  | a :: A, R => by
    show (if a.2.1 = -1 then 1 else 0) + cntN (A ++ R) = (if a.2.1 = -1 then 1 else 0) + cntN A + cntN R
    rw [cntN_app A R]; omega
theorem cntN_len : ∀ A : List Fr, cntN A ≤ A.length
  | [] => Nat.le_refl _
  | a :: A => by
    have := cntN_len A
    show (if a.2.1 = -1 then 1 else 0) + cntN A ≤ A.length + 1
    split <;> omega
theorem gOK_cnt {E : Mem} : ∀ (G : List (Int × Int)) (i : Int) (st : List Fr), gOK E G i st → cntN st ≤ 3 * G.length + 1
  | [], i, st, h => by
    have h : st = [] := h
    rw [h]; simp [cntN]
  | (T, d) :: G, i, st, h => by
    obtain ⟨hT, hd, hi, hg, A, b, R, rfl, hA, hAm, hB⟩ := h
    rw [cntN_app]
    have h1 := cntN_len A
    show cntN A + ((if b.2.1 = -1 then 1 else 0) + cntN R) ≤ 3 * (G.length + 1) + 1
    rcases hB with ⟨rfl, h2, rfl⟩ | ⟨-, h2, h3⟩
    · rw [if_pos h2]; simp [cntN]; omega
    · have := gOK_cnt G b.2.1 R h3
      rw [if_neg (by omega)]
      omega
theorem nodup_4 {L : List Int} (hn : L.Nodup) (hb : ∀ x ∈ L, 0 ≤ x ∧ x ≤ 3) : L.length ≤ 4 := by
  match L, hn, hb with
  | [], _, _ => simp
  | [_], _, _ => simp
  | [_, _], _, _ => simp
  | [_, _, _], _, _ => simp
  | [_, _, _, _], _, _ => simp
  | a :: b :: c :: d :: e :: r, hn, hb =>
    exfalso
    have h1 := hb a (by simp)
    have h2 := hb b (by simp)
    have h3 := hb c (by simp)
    have h4 := hb d (by simp)
    have h5 := hb e (by simp)
    simp only [List.nodup_cons, List.mem_cons, not_or] at hn
    obtain ⟨⟨n1, n2, n3, n4, -⟩, ⟨n5, n6, n7, -⟩, ⟨n8, n9, -⟩, ⟨n10, -⟩, -⟩ := hn
    omega
theorem gOK_T {E : Mem} : ∀ (G : List (Int × Int)) (i : Int) (st : List Fr), gOK E G i st → ∀ x ∈ G.map Prod.fst, 0 ≤ x ∧ x ≤ 3
  | [], _, _, _, x, hx => absurd hx List.not_mem_nil
  | (T, d) :: G, i, st, h, x, hx => by
    obtain ⟨hT, hd, hi, hg, A, b, R, rfl, hA, hAm, hB⟩ := h
    rcases List.mem_cons.mp hx with rfl | hx
    · exact hT
    · rcases hB with ⟨rfl, h2, rfl⟩ | ⟨-, h2, h3⟩
      · exact absurd hx List.not_mem_nil
      · exact gOK_T G _ R h3 x hx
theorem dep_le {E : Mem} {t : Int} {m : Nat} (hX : TXT E) (hg : gd (E 13) (E 12) 0 = 1) (hck : CK E t 0 = -1) (hm60 : m ≤ 60) (hm : ∀ i : Nat, i < m → tS E t i ≠ []) {j : Nat} (hj : j ≤ m) : cntN (tS E t j) ≤ 13 := by
  obtain ⟨-, G, h2, h3, -⟩ := tGOK hX hg hck hm60 hm j hj
  have h4 := gOK_cnt G _ _ h2
  have h5 := nodup_4 h3 (gOK_T G _ _ h2)
  rw [List.length_map] at h5
  omega
/-- a SET within a SET lies deeper -/
theorem dep_in {E : Mem} {t : Int} {m q c k : Nat} {x : Fr} {R : List Fr} (h : CLS E t m q x R c) (h1 : q ≤ k) (h2 : k ≤ c) (ho : opnP (E 13 (tI E t k))) : cntN (tS E t q) + 1 ≤ cntN (tS E t (k + 1)) := by
  obtain ⟨y, e1, -, e2, -⟩ := tS_push (Or.inl ho)
  obtain ⟨A, hA⟩ := h.2.2.2.1 k h1 h2
  rw [e1, h.1.1]
  show cntN (x :: R) + 1 ≤ (if y.2.1 = -1 then 1 else 0) + cntN (tS E t k)
  rw [if_pos (e2 ho), hA, cntN_app]
  omega
/-- behind an END that a token of the same text opened: by counting, as by the trace -/
theorem bh_tr {E : Mem} {t : Int} {m : Nat} (hm : ∀ i : Nat, i < m → tS E t i ≠ []) (hz : tS E t m = []) (hI : ∀ j : Nat, j < m → 0 ≤ tI E t j ∧ tI E t j ≤ 63) {q c : Nat} {x : Fr} {R : List Fr} (h : CLS E t m q x R c) (hxb : x.2.1 = -1) : ∀ (e j : Nat) (A : List Fr), c + 1 - j ≤ e → q ≤ j → j ≤ c → tS E t j = A ++ x :: R → (∀ a ∈ A, a.2.1 = -1) → ∃ f : Nat, f ≤ c + 1 - j ∧ bhK (E 13) f (tI E t j) ((A.length : Int) + 1) ∧ bhF (E 13) f (tI E t j) ((A.length : Int) + 1) = tI E t (c + 1) := by
  obtain ⟨⟨a1, a2⟩, a3, a4, a5, a6, a7, a8, a9⟩ := h
  intro e
  induction e with
  | zero => intro j A h1 h2 h3; omega
  | succ e ih =>
    intro j A h1 h2 h3 hA hAb
    have hr := hI j (by omega)
    have go : ∀ (j' : Nat) (A' : List Fr), j < j' → j' ≤ c → tS E t j' = A' ++ x :: R → (∀ a ∈ A', a.2.1 = -1) → tI E t j' = tI E t j + 1 → (A'.length : Int) + 1 = (A.length : Int) + 1 + (if opnP (E 13 (tI E t j)) then 1 else 0) - (if E 13 (tI E t j) = 6 then 1 else 0) → ∃ f : Nat, f ≤ c + 1 - j ∧ bhK (E 13) f (tI E t j) ((A.length : Int) + 1) ∧ bhF (E 13) f (tI E t j) ((A.length : Int) + 1) = tI E t (c + 1) := by
      intro j' A' g1 g2 g3 g4 g5 g6
      obtain ⟨f, f1, f2, f3⟩ := ih j' A' (by omega) (by omega) g2 g3 g4
      refine ⟨f + 1, by omega, Or.inr ⟨hr, ?_⟩, ?_⟩
      · rw [← g6, ← g5]; exact f2
      · unfold bhF
        rw [if_neg (by omega), ← g6, ← g5]
        exact f3
    by_cases o6 : E 13 (tI E t j) = 6
    · have hno : ¬ opnP (E 13 (tI E t j)) := fun w => by rcases w with w | w | w <;> omega
      have hs := tS_end o6
      cases A with
      | nil =>
        have hjc : j = c := by
          apply Classical.byContradiction
          intro w
          obtain ⟨A', hA'⟩ := a5 (j + 1) (by omega) (by omega)
          rw [hs, hA] at hA'
          have := congrArg List.length hA'
          simp at this
          omega
        subst hjc
        have hti : tI E t (j + 1) = tI E t j + 1 := by
          rw [tI_s]
          unfold nxI
          rw [if_neg (by omega), if_neg]
          rintro ⟨-, w⟩
          rw [hA] at w
          have w : 0 ≤ x.2.1 := w
          omega
        refine ⟨1, by omega, Or.inr ⟨hr, ?_⟩, ?_⟩
        · show _ ≤ (0 : Int)
          rw [if_neg hno, if_pos o6]; simp
        · unfold bhF
          rw [if_neg (by simp)]
          show tI E t j + 1 = _
          rw [hti]
      | cons a A =>
        have hab : a.2.1 = -1 := hAb a List.mem_cons_self
        have hjc : j ≠ c := fun w => by
          rw [w, a6] at hA
          have := congrArg List.length hA
          simp at this
          omega
        refine go (j + 1) A (by omega) (by omega) (by rw [hs, hA]; rfl) (fun y hy => hAb y (List.mem_cons_of_mem _ hy)) ?_ (by rw [if_neg hno, if_pos o6]; simp)
        rw [tI_s]
        unfold nxI
        rw [if_neg (by omega), if_neg]
        rintro ⟨-, w⟩
        rw [hA] at w
        have w : 0 ≤ a.2.1 := w
        omega
    · have hjc : j ≠ c := fun w => o6 (by rw [w]; exact a7)
      by_cases op : opnP (E 13 (tI E t j))
      · obtain ⟨y, e1, -, e2, -⟩ := tS_push (Or.inl op)
        refine go (j + 1) (y :: A) (by omega) (by omega) (by rw [e1, hA]; rfl) (fun z hz => by rcases List.mem_cons.mp hz with rfl | hz; exact e2 op; exact hAb z hz) ?_ (by rw [if_pos op, if_neg o6]; simp)
        rw [tI_s]
        unfold nxI
        rw [if_neg (fun w => by rcases op with z | z | z <;> omega), if_neg (fun w => o6 w.1)]
      · by_cases o5 : E 13 (tI E t j) = 5
        · obtain ⟨y, S, c', ⟨b1, b2⟩, b3, b4, b5, b6, b7, b8, b9⟩ := CLS_of hm hz (q := j + 1) (by omega) (Or.inr ⟨j, rfl, Or.inr o5⟩)
          obtain ⟨y', e1, -, -, e2⟩ := tS_push (Or.inr o5)
          have hyS : y = y' ∧ S = tS E t j := by rw [b1] at e1; simpa using e1
          have hn := clo_nest hm hz (q := q) (p := j + 1) (by omega) (by omega) (by rw [a9]; omega)
          rw [a9, b9] at hn
          refine go (c' + 1) A (by omega) (by omega) (by rw [b8, hyS.2]; exact hA) hAb ?_ (by rw [if_neg op, if_neg o6]; simp)
          rw [tI_s]
          unfold nxI
          rw [if_neg (by omega), if_pos]
          · rw [b6]
            show y.2.1 = _
            rw [hyS.1]
            exact e2 o5
          · refine ⟨b7, ?_⟩
            rw [b6]
            show 0 ≤ y.2.1
            rw [hyS.1, e2 o5]
            omega
        · refine go (j + 1) A (by omega) (by omega) (by rw [tS_same (fun w => by rcases w with w | w; exact op w; exact o5 w) o6]; exact hA) hAb ?_ (by rw [if_neg op, if_neg o6]; simp)
          rw [tI_s]
          unfold nxI
          rw [if_neg o5, if_neg (fun w => o6 w.1)]
/-- the cells of the steps -/
theorem PS_6 {E B : Mem} {t : Int} {m : Nat} (hP : PS E t m B) (hm : ∀ i : Nat, i < m → tS E t i ≠ []) (hz : tS E t m = []) {q : Nat} (hq : q ≤ m) : B (20 + (q : Int)) 6 = clo E t m q := by
  cases q with
  | zero =>
    obtain ⟨x, R, c, -, h1, h2, -, -, -, -, h3⟩ := CLS_of hm hz (Nat.zero_le m) (Or.inl rfl)
    exact hP.2.2.2.2.1 (by rw [show (0 : Int) = ((0 : Nat) : Int) from rfl, h3]; omega)
  | succ k => exact (hP.2.2.1 k (by omega)).2.2.2.2.2.1
theorem PLN_of {E B : Mem} {t : Int} {m : Nat} (hX : TXT E) (hP : PS E t m B) (hm60 : m ≤ 60) (hm : ∀ i : Nat, i < m → tS E t i ≠ []) (hz : tS E t m = []) (hI : ∀ j : Nat, j < m → 0 ≤ tI E t j ∧ tI E t j ≤ 63) : PLN B ((m : Int) + 1) := by
  refine ⟨by omega, fun c h1 h2 => ?_, fun c h1 h2 => ?_⟩
  · obtain ⟨q, rfl⟩ : ∃ q : Nat, c = 20 + (q : Int) := ⟨(c - 20).toNat, by omega⟩
    have h6 := PS_6 hP hm hz (q := q) (by omega)
    have hr := clo_rg hm hz (q := q) (by omega)
    rw [h6]
    refine ⟨by omega, fun p p1 p2 => ?_⟩
    obtain ⟨p', rfl⟩ : ∃ p' : Nat, p = 20 + (p' : Int) := ⟨(p - 20).toNat, by omega⟩
    rw [PS_6 hP hm hz (q := p') (by omega)]
    exact clo_nest hm hz (by omega) (by omega) (by omega)
  · obtain ⟨k, rfl⟩ : ∃ k : Nat, c = 20 + ((k : Int) + 1) := ⟨(c - 21).toNat, by omega⟩
    obtain ⟨s1, s2, s3, -, -, s6, -⟩ := hP.2.2.1 k (by omega)
    have hk := hI k (by omega)
    have ht := hX.2 (tI E t k) hk.1 (by omega)
    unfold isEP
    rw [s1, s2, s3, s6]
    refine ⟨fun h => by omega, fun h => ?_, fun h => by omega, fun h => by omega⟩
    have := clo_non (E := E) (t := t) (q := k + 1) (fun w => ?_) m
    · rw [show ((k : Int) + 1) = ((k + 1 : Nat) : Int) by omega, this]; omega
    · rcases w with w | ⟨k', w1, w2⟩
      · omega
      · have : k' = k := by omega
        subst this
        rcases w2 with (w2 | w2 | w2) | w2 <;> omega
