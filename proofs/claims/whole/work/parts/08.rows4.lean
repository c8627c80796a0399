/-! ROWS of the abstract machine, fourth part: switches, the JDK. -/
section ROWS4
variable {X : Cx} {b0 : Nat} {D : DD} {g : Bool} {kc ks : Nat} {Q : State → Prop} {n : Nat} {M : Mem} {pc : Nat} {la : List (Option AV)} {st : List AV} {cc : ByteArray} {own : String} {nL : Nat} {ret : Option FieldType} {l : Launch} {rk mcR msR : Nat} {mc ms : Nat} {post : Option AV → Nat → Mem → Prop}
/-- the arms of a table: i = lo, lo + 1, .. -/
def fx_cs (P : Nat → Prop) (i : Int) : Int → List Nat → Prop
  | _, [] => True
  | lo, t :: ts => (i = lo → P t) ∧ fx_cs P i (lo + 1) ts
theorem fx_cs_at {P : Nat → Prop} {i : Int} : ∀ (ts : List Nat) (lo : Int) (j t : Nat), fx_cs P i lo ts → ts[j]? = some t → i = lo + j → P t
  | [], _, j, _, _, hj, _ => by simp at hj
  | t0 :: ts, lo, 0, t, h, hj, hi => by
    simp at hj; subst hj
    exact h.1 (by simpa using hi)
  | t0 :: ts, lo, j + 1, t, h, hj, hi => fx_cs_at ts (lo + 1) j t h.2 (by simpa using hj) (by omega)
theorem A_tsw {dflt lo hi i : Int} {offs : Array Int} {len td : Nat} (tg : List Nat) (hC : CX X b0 D cc own nL ret l rk mcR msR) (hd : decode cc pc = .ok (.tableswitch dflt lo hi offs, len)) (ho : offs.toList = tg.map (fun t : Nat => (t : Int) - pc)) (hlen : (tg.length : Int) = hi + 1 - lo) (ht : (pc : Int) + dflt = (td : Int)) (kk : fx_cs (fun t => AW X b0 D g kc ks Q n M t la st) i lo tg) (kd : i < lo ∨ hi < i → AW X b0 D g kc ks Q n M td la st) : AW X b0 D g kc ks Q n M pc la (.inl i :: st) := by
  intro hs hl hm H locs ls hW hS hL
  have hri : rg i := fx_S1 hs
  by_cases h : i < lo ∨ hi < i
  · exact lv_tableOut (cx_x hC) (cx_b hC) hd (by rw [fx_toI hri]; exact h) ht (kd h (fx_St hs) hl hm H locs ls hW hS hL)
  · have h1 : ¬ i < lo := fun q => h (Or.inl q)
    have h2 : ¬ hi < i := fun q => h (Or.inr q)
    have hj : (i - lo).toNat < tg.length := by omega
    have ha := fx_cs_at tg lo (i - lo).toNat tg[(i - lo).toNat] kk (List.getElem?_eq_getElem hj) (by omega)
    have hof : offs[(i - lo).toNat]? = some ((tg[(i - lo).toNat] : Int) - pc) := by
      rw [← Array.getElem?_toList, ho, List.getElem?_map, List.getElem?_eq_getElem hj]
      rfl
    exact lv_tableIn (cx_x hC) (cx_b hC) hd (by rw [fx_toI hri]; exact h1) (by rw [fx_toI hri]; exact h2) (by rw [fx_toI hri]; exact hof) (by omega) (ha (fx_St hs) hl hm H locs ls hW hS hL)
/-- the arms of a lookup, then the rest -/
def fx_lk (P : Nat → Prop) (i : Int) (td : Nat) : List (Int × Nat) → Prop
  | [] => P td
  | (a, t) :: r => (i = a → P t) ∧ (¬ i = a → fx_lk P i td r)
theorem fx_lk_off {P : Nat → Prop} {i dflt : Int} {pc td : Nat} (ht : (pc : Int) + dflt = (td : Int)) : ∀ (r : List (Int × Nat)), fx_lk P i td r → ∃ t : Nat, (pc : Int) + Op.lookupswitch.offset (r.map (fun q : Int × Nat => (q.1, (q.2 : Int) - pc))) dflt i = t ∧ P t
  | [], h => ⟨td, ht, h⟩
  | (a, t) :: r, h => by
    rw [List.map_cons, Op.lookupswitch.offset_cons]
    by_cases e : i = a
    · rw [if_pos e.symm]
      exact ⟨t, by omega, h.1 e⟩
    · rw [if_neg (fun q => e q.symm)]
      exact fx_lk_off ht r (h.2 e)
theorem A_lsw {dflt i : Int} {ps : Array (Int × Int)} {len td : Nat} (tg : List (Int × Nat)) (hC : CX X b0 D cc own nL ret l rk mcR msR) (hd : decode cc pc = .ok (.lookupswitch dflt ps, len)) (hp : (ps.toList.zip (ps.toList.drop 1)).all (fun (a, next) => a.1 < next.1) = true) (ho : ps.toList = tg.map (fun q : Int × Nat => (q.1, (q.2 : Int) - pc))) (ht : (pc : Int) + dflt = (td : Int)) (kk : fx_lk (fun t => AW X b0 D g kc ks Q n M t la st) i td tg) : AW X b0 D g kc ks Q n M pc la (.inl i :: st) := by
  intro hs hl hm H locs ls hW hS hL
  have hri : rg i := fx_S1 hs
  obtain ⟨t, h1, h2⟩ := fx_lk_off (pc := pc) ht tg kk
  rw [← ho] at h1
  exact lv_lookup (cx_x hC) (cx_b hC) hd hp (by rw [fx_toI hri]) h1 (h2 (fx_St hs) hl hm H locs ls hW hS hL)
theorem A_mmax {idx : Nat} {i j : Int} (hC : CX X b0 D cc own nL ret l rk mcR msR) (hd : decode cc pc = .ok (.invokestatic idx, 3)) (h1 : Cond.methodLink own idx Lib.Math.max.name ∈ zG) (h2 : Cond.static Lib.Math.max.name ∈ zG) (h3 : Cond.initialized "java/lang/Math" ∈ zG) (h4 : Cond.code Lib.Math.max.name Lib.Math.max.code 2 (some .int) ∈ zG) (hf : 1 ≤ rk) (h8 : st.length ≤ 8) (hc : kc ≤ mcR ∧ ks ≤ msR) (hlen : la.length = nL) (kk : AW X b0 D g kc ks Q n M (pc + 3) la (.inl (if i < j then j else i) :: st)) : AW X b0 D g kc ks Q n M pc la (.inl j :: .inl i :: st) := by
  intro hs hl hm H locs ls hW hS hL
  have hR0 := (cx_R hC)
  have hj : rg j := fx_S1 hs
  have hi : rg i := fx_S1 (fx_St hs)
  have k2 := kk (fx_Sc (by show rg _; simp only [fx_v]; split <;> assumption) (fx_St (fx_St hs))) hl hm H locs ls hW hS hL
  refine va_mmax (cx_x hC) (cx_b hC) (by rw [(cx_ml hC), ← hlen]; exact hL.1.symm) (cx_o hC) ((cx_t hC) _ h1) ((cx_t hC) _ h2) ((cx_t hC) _ h3) ((cx_t hC) _ h4) (by omega) (by rw [fx_catS]; omega) (by omega) (by omega) hd ?_
  have e : (if Int32.ofInt i < Int32.ofInt j then Int32.ofInt j else Int32.ofInt i) = Int32.ofInt (if i < j then j else i) := by
    by_cases h : i < j
    · rw [if_pos h, if_pos ((fx_lt hi hj).mpr h)]
    · rw [if_neg h, if_neg (fun q => h ((fx_lt hi hj).mp q))]
  rw [e]
  exact k2
/-- what System.arraycopy leaves -/
def cpy (M : Mem) (c1 sp c2 dp k : Int) : Mem := fun c j => if c = c2 ∧ dp ≤ j ∧ j < dp + k then M c1 (sp + (j - dp)) else M c j
theorem fx_en_cpy {c1 sp dp k : Int} {c2 d : Nat} (h : d ≠ c2) : fx_en b0 D.2 (cpy M c1 sp c2 dp k) d = fx_en b0 D.2 M d := by
  have e : ∀ j : Int, cpy M c1 sp c2 dp k d j = M d j := fun j => by unfold cpy; rw [if_neg (by omega)]
  simp only [fx_en, fx_fs, e]
theorem A_copy {idx N1 N2 : Nat} {c1 sp c2 dp k : Int} (hC : CX X b0 D cc own nL ret l rk mcR msR) (hd : decode cc pc = .ok (.invokestatic idx, 3)) (h1 : Cond.methodLink own idx arraycopyName ∈ zG) (h2 : Cond.native arraycopyName ∈ zG) (h3 : Cond.static arraycopyName ∈ zG) (h4 : Cond.initialized "java/lang/System" ∈ zG) (hf : 1 ≤ rk) (h8 : st.length ≤ 8) (hlen : la.length = nL) (hl1 : fx_ly c1 = (100, N1)) (hl2 : fx_ly c2 = (100, N2)) (hc1 : 0 ≤ c1 ∧ c1 < n) (hc2 : 0 ≤ c2 ∧ c2 < n) (hs1 : 0 ≤ sp ∧ 0 ≤ dp ∧ 0 ≤ k) (hs2 : sp + k ≤ N1 ∧ dp + k ≤ N2) (hu : g = true → ∀ j, fx_kk 100 j = false) (kk : AW X b0 D g kc ks Q n (cpy M c1 sp c2 dp k) (pc + 3) la st) : AW X b0 D g kc ks Q n M pc la (.inl k :: .inl dp :: .inr c2 :: .inl sp :: .inr c1 :: st) := by
  intro hs hl hm H locs ls hW hS hL
  have hR0 := cx_R hC
  obtain ⟨a1, rfl⟩ : ∃ c' : Nat, c1 = c' := ⟨c1.toNat, by omega⟩
  obtain ⟨a2, rfl⟩ : ∃ c' : Nat, c2 = c' := ⟨c2.toNat, by omega⟩
  rw [List.map_cons, List.map_cons, List.map_cons, List.map_cons, List.map_cons, fx_cr hc1.1, fx_cr hc2.1, Int.toNat_natCast, Int.toNat_natCast]
  have hk : rg k := fx_S1 hs
  have hdp : rg dp := fx_S1 (fx_St hs)
  have hsp : rg sp := fx_S1 (fx_St (fx_St (fx_St hs)))
  have hn1 : a1 < n := by omega
  have hn2 : a2 < n := by omega
  have e1 := hW.2 a1 _ (fx_wl_at (b0 := b0) (cA := D.2) (M := M) hn1)
  have e2 := hW.2 a2 _ (fx_wl_at (b0 := b0) (cA := D.2) (M := M) hn2)
  rw [fx_en_i hl1] at e1
  rw [fx_en_i hl2] at e2
  have hc0 : H[b0 + a1]? = some (vp_cell (D.2 0) (N1, .inl (fun j => Int32.ofInt (M a1 j)))) := e1
  have hc1' : H[b0 + a2]? = some (vp_cell (D.2 0) (N2, .inl (fun j => Int32.ofInt (M a2 j)))) := e2
  obtain ⟨-, k0, hk0, cm0, hkk0⟩ := ((cx_k hC).2 0 _ rfl).1 N1 (fun j => .int (Int32.ofInt (M a1 j)))
  obtain ⟨-, k1, hk1, cm1, hkk1⟩ := ((cx_k hC).2 0 _ rfl).1 N2 (fun j => .int (Int32.ofInt (M a2 j)))
  intro T hT X0
  have hri : ∀ z : Int, rg z → 0 ≤ z → ((Int32.ofInt z).toNatClampNeg : Int) = z := fun z h h0 => by rw [fx_clamp h]; omega
  have q1 := hri sp hsp hs1.1
  have q2 := hri dp hdp hs1.2.1
  have q3 := hri k hk hs1.2.2
  obtain ⟨vm', X', step⟩ := X0.arraycopy (cx_x hC) (cx_o hC) (cx_t hC _ h1) (cx_t hC _ h2) (cx_t hC _ h3) (cx_t hC _ h4) (src := b0 + a1) (dst := b0 + a2) (cs := vp_cell (D.2 0) (N1, .inl (fun j => Int32.ofInt (M a1 j)))) (cd := vp_cell (D.2 0) (N2, .inl (fun j => Int32.ofInt (M a2 j)))) (srcPos := Int32.ofInt sp) (destPos := Int32.ofInt dp) (n := Int32.ofInt k) (by rw [hT]; exact hc0) (by rw [hT]; exact hc1')
    (fun _ h => by cases h) (fun _ h => by cases h) (fun h => by cases h) (fun h => by cases h) hk0 hk1 hkk0 hkk1 (by simp [refKind]) (by rw [fx_lt0 hsp]; omega) (by rw [fx_lt0 hdp]; omega) (by rw [fx_lt0 hk]; omega)
    (by rw [fx_toI hsp, fx_toI hk]; show ¬ _ > ((arrV (D.2 0) N1 (fun j => .int (Int32.ofInt (M a1 j)))).slots.size : Int); rw [arrV_size]; omega)
    (by rw [fx_toI hdp, fx_toI hk]; show ¬ _ > ((arrV (D.2 0) N2 (fun j => .int (Int32.ofInt (M a2 j)))).slots.size : Int); rw [arrV_size]; omega)
    (fun vm₁ _ i hi => by
      have e : (vp_cell (D.2 0) (N1, .inl (fun j => Int32.ofInt (M a1 j)))).slots.getD ((Int32.ofInt sp).toNatClampNeg + i) .null = .int (Int32.ofInt (M a1 ((Int32.ofInt sp).toNatClampNeg + i : Nat))) := by
        show (arrV (D.2 0) N1 (fun j => .int (Int32.ofInt (M a1 j)))).slots.getD _ _ = _
        rw [Array.getD_eq_getD_getElem?, arrV_read _ _ (by omega)]
        rfl
      refine ⟨?_, ?_⟩
      · rw [e]; rfl
      · rw [e]; exact trivial)
    (g := F0 (xm X) pc ls (.int (Int32.ofInt k) :: .int (Int32.ofInt dp) :: .ref (b0 + a2) :: .int (Int32.ofInt sp) :: .ref (b0 + a1) :: st.map (fx_co b0))) rfl (by rw [cx_ml hC, ← hlen]; exact hL.1) (rest := st.map (fx_co b0)) rfl (by rw [cx_b hC]; exact hd) (by omega) (by rw [fx_catS]; show 2 * 0 + _ + (5 + 2 + 11) ≤ _; omega)
  have ec : copied (vp_cell (D.2 0) (N1, .inl (fun j => Int32.ofInt (M a1 j)))) (vp_cell (D.2 0) (N2, .inl (fun j => Int32.ofInt (M a2 j)))) (Int32.ofInt sp) (Int32.ofInt dp) (Int32.ofInt k) = vp_cell (D.2 0) (N2, .inl (va_cpy (fun j => Int32.ofInt (M a1 j)) (fun j => Int32.ofInt (M a2 j)) (Int32.ofInt sp).toNatClampNeg (Int32.ofInt dp).toNatClampNeg (Int32.ofInt k).toNatClampNeg)) := va_copied (fun z => .int z) (D.2 0) (D.2 0) (fun j => Int32.ofInt (M a1 j)) (fun j => Int32.ofInt (M a2 j)) (by omega)
  have ef : va_cpy (fun j : Nat => Int32.ofInt (M a1 j)) (fun j : Nat => Int32.ofInt (M a2 j)) (Int32.ofInt sp).toNatClampNeg (Int32.ofInt dp).toNatClampNeg (Int32.ofInt k).toNatClampNeg = fun j : Nat => Int32.ofInt (cpy M a1 sp a2 dp k a2 j) := by
    funext j
    unfold va_cpy cpy
    by_cases h : (Int32.ofInt dp).toNatClampNeg ≤ j ∧ j < (Int32.ofInt dp).toNatClampNeg + (Int32.ofInt k).toNatClampNeg
    · rw [if_pos h, if_pos ⟨rfl, by omega, by omega⟩]
      dsimp only
      rw [show (((Int32.ofInt sp).toNatClampNeg + (j - (Int32.ofInt dp).toNatClampNeg) : Nat) : Int) = sp + ((j : Int) - dp) by omega]
    · rw [if_neg h, if_neg (by rintro ⟨-, e1, e2⟩; exact h ⟨by omega, by omega⟩)]
  rw [ec, ef] at X' step
  have hll : b0 + a2 < H.size := (Array.getElem?_eq_some_iff.mp hc1').1
  have oq : ∀ q : Nat, q ≠ b0 + a2 → (H.setIfInBounds (b0 + a2) (vp_cell (D.2 0) (N2, .inl (fun j : Nat => Int32.ofInt (cpy M a1 sp a2 dp k a2 j)))))[q]? = H[q]? := fun q hq => by simp [Array.getElem?_setIfInBounds, Ne.symm hq]
  obtain ⟨b1, -⟩ := fx_stored (M' := cpy M a1 sp a2 dp k) hW hS hn2 (H1 := H.setIfInBounds (b0 + a2) (vp_cell (D.2 0) (N2, .inl (fun j : Nat => Int32.ofInt (cpy M a1 sp a2 dp k a2 j))))) (by
    rw [fx_en_i hl2]
    show (H.setIfInBounds _ _)[b0 + a2]? = some _
    simp [Array.getElem?_setIfInBounds, hll]) (by simp) oq (fun d hd => fx_en_cpy hd) 0
  have hmm : fx_okM g (cpy M a1 sp a2 dp k) := by
    refine ⟨fun c j => ?_, fun hg c j hcj => ?_⟩
    · unfold cpy; split
      · exact hm.1 _ _
      · exact hm.1 _ _
    · unfold cpy
      rw [if_neg]
      · exact hm.2 hg c j hcj
      · rintro ⟨rfl, -⟩
        rw [hl2, hu hg j] at hcj
        cases hcj
  have hheap : ((T.setVm vm').setCell (b0 + a2) (vp_cell (D.2 0) (N2, .inl (fun j : Nat => Int32.ofInt (cpy M a1 sp a2 dp k a2 j))))).heap = H.setIfInBounds (b0 + a2) (vp_cell (D.2 0) (N2, .inl (fun j : Nat => Int32.ofInt (cpy M a1 sp a2 dp k a2 j)))) := by rw [← hT]; rfl
  obtain ⟨t, r1, r2⟩ := kk (fx_St (fx_St (fx_St (fx_St (fx_St hs))))) hl hmm _ _ ls b1 ⟨by simp; exact hS.1, fun q g1 g2 => by
      rw [oq q (by omega)]
      exact hS.2.1 q g1 g2, fun q hq => by
      rcases List.mem_append.mp hq with h | h
      · exact hS.2.2 q h
      · obtain ⟨z, -, hz⟩ := List.mem_map.mp h
        rw [← hz]
        exact Nat.le_add_right _ _⟩ hL _ hheap X'
  exact ⟨t, step t r1, r2⟩
end ROWS4
