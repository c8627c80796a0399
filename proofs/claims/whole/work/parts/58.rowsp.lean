-- ===== rows of the law's own body: its local 0 is the script b, which is no cell of ours
def AP (X : Cx) (b0 : Nat) (D : DD) (b : Nat) (g : Bool) (kc ks : Nat) (Q : State → Prop) (n : Nat) (M : Mem) (pc : Nat) (la : List (Option AV)) (st : List AV) : Prop :=
  fx_okS st → fx_okL la → fx_okM g M → ∀ (H : Heap) (locs : List Loc) (ls : Array Slot), Wd b0 D n M H → va_S (fun q => b0 ≤ q) (xs X).heap H locs → fx_L b0 ls la → ls[0]? = some (.val (.ref b)) → WX X H locs kc ks Q (F0 (xm X) pc ls (st.map (fx_co b0)))
section ROWSP
variable {X : Cx} {b0 : Nat} {D : DD} {b : Nat} {g : Bool} {kc ks : Nat} {Q : State → Prop} {n : Nat} {M : Mem} {pc : Nat} {la : List (Option AV)} {st : List AV} {cc : ByteArray} {own : String} {nL : Nat} {ret : Option FieldType} {l : Launch} {rk mcR msR : Nat}
theorem P_iconst {v : Int} (hC : CX X b0 D cc own nL ret l rk mcR msR) (hd : decode cc pc = .ok (.iconst v, 1)) (hv : rg v) (k : AP X b0 D b g kc ks Q n M (pc + 1) la (.inl v :: st)) : AP X b0 D b g kc ks Q n M pc la st := by
  intro hs hl hm H locs ls hW hS hL hPP
  exact lv_iconst (cx_x hC) (cx_b hC) hd rfl (k (fx_Sc hv hs) hl hm H locs ls hW hS hL hPP)
theorem P_bipush {v : Int} (hC : CX X b0 D cc own nL ret l rk mcR msR) (hd : decode cc pc = .ok (.bipush v, 2)) (hv : rg v) (he : (Int8.ofInt v).toInt32 = Int32.ofInt v) (k : AP X b0 D b g kc ks Q n M (pc + 2) la (.inl v :: st)) : AP X b0 D b g kc ks Q n M pc la st := by
  intro hs hl hm H locs ls hW hS hL hPP
  exact lv_bipush (cx_x hC) (cx_b hC) hd he (k (fx_Sc hv hs) hl hm H locs ls hW hS hL hPP)
theorem P_iload_n {i : Nat} {k4 : Fin 4} {x : Int} (hC : CX X b0 D cc own nL ret l rk mcR msR) (hd : decode cc pc = .ok (.iload_n k4, 1)) (hk : (k4 : Nat) = i) (hi : la[i]? = some (some (.inl x))) (k : AP X b0 D b g kc ks Q n M (pc + 1) la (.inl x :: st)) : AP X b0 D b g kc ks Q n M pc la st := by
  intro hs hl hm H locs ls hW hS hL hPP
  exact lv_iload_n (cx_x hC) (cx_b hC) hd hk (hL.2.2 i _ hi) (k (fx_Sc (fx_La hl hi) hs) hl hm H locs ls hW hS hL hPP)
theorem P_aload_n {i : Nat} {k4 : Fin 4} {x : Int} (hC : CX X b0 D cc own nL ret l rk mcR msR) (hd : decode cc pc = .ok (.aload_n k4, 1)) (hk : (k4 : Nat) = i) (hi : la[i]? = some (some (.inr x))) (k : AP X b0 D b g kc ks Q n M (pc + 1) la (.inr x :: st)) : AP X b0 D b g kc ks Q n M pc la st := by
  intro hs hl hm H locs ls hW hS hL hPP
  have e := hL.2.2 i _ hi
  have kk := k (fx_Sc (fx_La hl hi) hs) hl hm H locs ls hW hS hL hPP
  rw [List.map_cons] at kk
  by_cases h0 : 0 ≤ x
  · rw [fx_cr h0] at e kk
    exact lv_aload_n (cx_x hC) (cx_b hC) hd hk e kk
  · rw [fx_cn (by omega)] at e kk
    exact lv_aload_nN (cx_x hC) (cx_b hC) hd hk e kk
theorem P_dup {v : AV} (hC : CX X b0 D cc own nL ret l rk mcR msR) (hd : decode cc pc = .ok (.dup, 1)) (k : AP X b0 D b g kc ks Q n M (pc + 1) la (v :: v :: st)) : AP X b0 D b g kc ks Q n M pc la (v :: st) := by
  intro hs hl hm H locs ls hW hS hL hPP
  exact lv_dup (cx_x hC) (cx_b hC) hd (fx_cat b0 v) (k (fx_Sc (fx_S1 hs) hs) hl hm H locs ls hW hS hL hPP)
theorem P_isub {i j : Int} (hC : CX X b0 D cc own nL ret l rk mcR msR) (hd : decode cc pc = .ok (.isub, 1)) (hr : rg (i - j)) (k : AP X b0 D b g kc ks Q n M (pc + 1) la (.inl (i - j) :: st)) : AP X b0 D b g kc ks Q n M pc la (.inl j :: .inl i :: st) := by
  intro hs hl hm H locs ls hW hS hL hPP
  have kk : WX X H locs kc ks Q (F0 (xm X) (pc + 1) ls (.int (Int32.ofInt (i - j)) :: st.map (fx_co b0))) := k (fx_Sc hr (fx_St (fx_St hs))) hl hm H locs ls hW hS hL hPP
  rw [Int32.ofInt_sub] at kk
  exact lv_isub (cx_x hC) (cx_b hC) hd kk
theorem P_icmpgt {i j off : Int} {tgt : Nat} (hC : CX X b0 D cc own nL ret l rk mcR msR) (hd : decode cc pc = .ok (.if_icmp .gt off, 3)) (ht : (pc : Int) + off = (tgt : Int)) (kt : j < i → AP X b0 D b g kc ks Q n M tgt la st) (kf : ¬ j < i → AP X b0 D b g kc ks Q n M (pc + 3) la st) : AP X b0 D b g kc ks Q n M pc la (.inl j :: .inl i :: st) := by
  intro hs hl hm H locs ls hW hS hL hPP
  exact lv_icmp_gt (cx_x hC) (cx_b hC) hd ht (fun h => kt ((fx_lt (fx_S1 hs) (fx_S1 (fx_St hs))).mp h) (fx_St (fx_St hs)) hl hm H locs ls hW hS hL hPP) (fun h => kf (fun e => h ((fx_lt (fx_S1 hs) (fx_S1 (fx_St hs))).mpr e)) (fx_St (fx_St hs)) hl hm H locs ls hW hS hL hPP)
theorem P_icmpeq {i j off : Int} {tgt : Nat} (hC : CX X b0 D cc own nL ret l rk mcR msR) (hd : decode cc pc = .ok (.if_icmp .eq off, 3)) (ht : (pc : Int) + off = (tgt : Int)) (kt : i = j → AP X b0 D b g kc ks Q n M tgt la st) (kf : ¬ i = j → AP X b0 D b g kc ks Q n M (pc + 3) la st) : AP X b0 D b g kc ks Q n M pc la (.inl j :: .inl i :: st) := by
  intro hs hl hm H locs ls hW hS hL hPP
  exact lv_icmp_eq (cx_x hC) (cx_b hC) hd ht (fun h => kt ((fx_eq (fx_S1 (fx_St hs)) (fx_S1 hs)).mp h) (fx_St (fx_St hs)) hl hm H locs ls hW hS hL hPP) (fun h => kf (fun e => h ((fx_eq (fx_S1 (fx_St hs)) (fx_S1 hs)).mpr e)) (fx_St (fx_St hs)) hl hm H locs ls hW hS hL hPP)
theorem P_ifeq {i off : Int} {tgt : Nat} (hC : CX X b0 D cc own nL ret l rk mcR msR) (hd : decode cc pc = .ok (.ifCond .eq off, 3)) (ht : (pc : Int) + off = (tgt : Int)) (kt : i = 0 → AP X b0 D b g kc ks Q n M tgt la st) (kf : ¬ i = 0 → AP X b0 D b g kc ks Q n M (pc + 3) la st) : AP X b0 D b g kc ks Q n M pc la (.inl i :: st) := by
  intro hs hl hm H locs ls hW hS hL hPP
  exact lv_if_eq (cx_x hC) (cx_b hC) hd ht (fun h => kt ((fx_eq0 (fx_S1 hs)).mp h) (fx_St hs) hl hm H locs ls hW hS hL hPP) (fun h => kf (fun e => h ((fx_eq0 (fx_S1 hs)).mpr e)) (fx_St hs) hl hm H locs ls hW hS hL hPP)
theorem P_goto {off : Int} {tgt : Nat} (hC : CX X b0 D cc own nL ret l rk mcR msR) (hd : decode cc pc = .ok (.goto off, 3)) (ht : (pc : Int) + off = (tgt : Int)) (k : AP X b0 D b g kc ks Q n M tgt la st) : AP X b0 D b g kc ks Q n M pc la st := by
  intro hs hl hm H locs ls hW hS hL hPP
  exact lv_goto (cx_x hC) (cx_b hC) hd ht (k hs hl hm H locs ls hW hS hL hPP)
theorem P_iand15 {i : Int} (hC : CX X b0 D cc own nL ret l rk mcR msR) (hd : decode cc pc = .ok (.iand, 1)) (k : AP X b0 D b g kc ks Q n M (pc + 1) la (.inl (i % 16) :: st)) : AP X b0 D b g kc ks Q n M pc la (.inl 15 :: .inl i :: st) := by
  intro hs hl hm H locs ls hW hS hL hPP
  have kk : WX X H locs kc ks Q (F0 (xm X) (pc + 1) ls (.int (Int32.ofInt (i % 16)) :: st.map (fx_co b0))) := k (fx_Sc (by show rg _; simp only [fx_v]; omega) (fx_St (fx_St hs))) hl hm H locs ls hW hS hL hPP
  have e := fx_and (i := i) 15 4 (by decide) (by decide)
  have e2 : ((2 ^ 4 : Nat) : Int) = 16 := by decide
  rw [e2] at e
  rw [← e] at kk
  exact lv_iand (cx_x hC) (cx_b hC) hd kk
theorem P_tsw {dflt lo hi i : Int} {offs : Array Int} {len td : Nat} (tg : List Nat) (hC : CX X b0 D cc own nL ret l rk mcR msR) (hd : decode cc pc = .ok (.tableswitch dflt lo hi offs, len)) (ho : offs.toList = tg.map (fun t : Nat => (t : Int) - pc)) (hlen : (tg.length : Int) = hi + 1 - lo) (ht : (pc : Int) + dflt = (td : Int)) (kk : fx_cs (fun t => AP X b0 D b g kc ks Q n M t la st) i lo tg) (kd : i < lo ∨ hi < i → AP X b0 D b g kc ks Q n M td la st) : AP X b0 D b g kc ks Q n M pc la (.inl i :: st) := by
  intro hs hl hm H locs ls hW hS hL hPP
  have hri : rg i := fx_S1 hs
  by_cases h : i < lo ∨ hi < i
  · exact lv_tableOut (cx_x hC) (cx_b hC) hd (by rw [fx_toI hri]; exact h) ht (kd h (fx_St hs) hl hm H locs ls hW hS hL hPP)
  · have h1 : ¬ i < lo := fun q => h (Or.inl q)
    have h2 : ¬ hi < i := fun q => h (Or.inr q)
    have hj : (i - lo).toNat < tg.length := by omega
    have ha := fx_cs_at tg lo (i - lo).toNat tg[(i - lo).toNat] kk (List.getElem?_eq_getElem hj) (by omega)
    have hof : offs[(i - lo).toNat]? = some ((tg[(i - lo).toNat] : Int) - pc) := by
      rw [← Array.getElem?_toList, ho, List.getElem?_map, List.getElem?_eq_getElem hj]
      rfl
    exact lv_tableIn (cx_x hC) (cx_b hC) hd (by rw [fx_toI hri]; exact h1) (by rw [fx_toI hri]; exact h2) (by rw [fx_toI hri]; exact hof) (by omega) (ha (fx_St hs) hl hm H locs ls hW hS hL hPP)
variable {post : Option AV → Nat → Mem → Prop}
theorem P_run {st0 : List AV} {a0 : Array Value} {mcx msx : Nat} (hb : b0 ≤ (xs X).heap.size)
    (hrun : ∀ (H : Heap) (locs : List Loc) (ls : Array Slot), fx_okS st0 → fx_okM g M → Wd b0 D n M H → fx_L b0 ls la → va_Run (xp X) (xl X) (xe X) (xR X) (xs X) (xm X) (xa X) (xb X) (xt X) (xc X) H locs kc ks mcx msx (F0 (xm X) pc ls (st0.map (fx_co b0))) (st.map (fx_co b0)) (fx_Qc b0 D g post a0) (fun q => b0 ≤ q))
    (hst : ∀ v ∈ st, v ∈ st0) (kk : ∀ (r : Option AV) (n' : Nat) (M' : Mem), post r n' M' → AP X b0 D b g (kc + mcx) (ks + msx) Q n' M' (pc + 3) la (r.toList ++ st)) : AP X b0 D b g kc ks Q n M pc la st0 := by
  intro hs hl hm H locs ls hW hS hL hPP T hT S0
  obtain ⟨v, st₀, t, T', L, h0, X', hLo, e1, e2, ⟨r, n', M', hv, hor, hom, hp, hW', hz, hk⟩, go⟩ := hrun H locs ls hs hm hW hL T hT S0
  cases hv
  rw [h0] at hz hk
  obtain ⟨t2, a1, b1⟩ := kk r n' M' hp (fun v hv => by
      rcases List.mem_append.mp hv with h | h
      · exact hor v (by simpa using h)
      · exact hs v (hst v h)) hl hom t.heap (locs ++ L) ls hW'
    ⟨Nat.le_trans hS.1 hz, fun q h1 h2 => by rw [hk q (by omega)]; exact hS.2.1 q h1 h2, fun q hq => by
      rcases List.mem_append.mp hq with h | h
      · exact hS.2.2 q h
      · exact hLo q h⟩ hL hPP T' e1 X'
  refine ⟨t2, go t2 ?_, b1⟩
  have : (r.toList ++ st).map (fx_co b0) = (r.map (fx_co b0)).toList ++ st.map (fx_co b0) := by cases r <;> rfl
  rw [this] at a1
  exact a1
theorem P_callV {idx na mcx msx r' : Nat} {md : MD} {as st0 : List AV} {c : Int} (hC : CX X b0 D cc own nL ret l rk mcR msR) (hd : decode cc pc = .ok (.invokevirtual idx, 3)) (hmv : MV md na) (hlk : Cond.methodLink own idx md.1 ∈ zG) (hr : r' < rk) (hsel : Cond.selects md.1.cls md.1 md.1 ∈ zG) {ci N : Nat} {T : u_T} (hq : vwCl[ci]? = some (md.1.cls, T, N) ∧ ci < 100) (hly : fx_ly c = (ci, N)) (hc : 0 ≤ c ∧ c < n) (hM : AMet l md g r' mcx msx (.inr c :: as) n M post) (hst : as.reverse ++ .inr c :: st = st0) (hna : as.length = na) (h8 : st.length ≤ 8) (hf : kc + mcx ≤ mcR ∧ ks + msx ≤ msR) (hlen : la.length = nL)
    (kk : ∀ (r : Option AV) (n' : Nat) (M' : Mem), post r n' M' → AP X b0 D b g (kc + mcx) (ks + msx) Q n' M' (pc + 3) la (r.toList ++ st)) : AP X b0 D b g kc ks Q n M pc la st0 := by
  subst hst
  have hR := cx_R hC
  refine P_run (a0 := ((.inr c :: as).map (fx_co b0)).toArray) (mcx := mcx) (msx := msx) (post := post) (st := st) (cx_0 hC) (fun H locs ls hs hm hW hL => ?_) (fun v hv => List.mem_append_right _ (List.mem_cons_of_mem _ hv)) kk
  obtain ⟨c', rfl⟩ : ∃ c' : Nat, c = c' := ⟨c.toNat, by omega⟩
  have hat := fx_wl_at (b0 := b0) (cA := D.2) (M := M) (show c' < n by omega)
  rw [fx_en_o hly hq.2] at hat
  have hcr : fx_co b0 (.inr (c' : Int)) = .ref (b0 + c') := by rw [fx_cr hc.1, Int.toNat_natCast]
  have hM' := hM b0 D
  rw [← cx_l hC] at hM'
  have hcw : (((.inr (c' : Int) :: as).map (fx_co b0)).toArray) = (Value.ref (b0 + c') :: as.map (fx_co b0)).toArray := by rw [List.map_cons, hcr]
  rw [hcw]
  refine va_runV (As := as.map (fx_co b0)) (rest := st.map (fx_co b0)) ⟨cx_x hC, cx_b hC, cx_ml hC, cx_o hC, cx_t hC⟩ hM' ⟨fx_cB hC hmv.2.2.1 hmv.2.1 hmv.2.2.2.1 hmv.2.2.2.2 hlk hr, cx_t hC _ hmv.1, cx_t hC _ hsel⟩ ⟨fx_blind, va_recv (cx_k hC) hW.2 hq.1 hat, fun U hU hWm => ⟨by rw [List.map_cons, hcr], by rw [hU]; exact hW, fx_KK.warm hWm (cx_kk hC), fun v hv => ?_, hm⟩⟩ rfl (by simpa using hna) (by rw [← hlen]; exact hL.1) (by simp [List.map_append, hcr]) (lv_room (by rw [fx_catS]; exact h8)) hd ⟨by omega, by omega⟩
  rcases List.mem_cons.mp hv with rfl | hv
  · exact hs _ (List.mem_append_right _ List.mem_cons_self)
  · exact hs _ (List.mem_append_left _ (List.mem_reverse.mpr hv))
theorem P_callI {idx na mcx msx r' : Nat} {md : MD} {as st0 : List AV} {c : Int} (hC : CX X b0 D cc own nL ret l rk mcR msR) (hd : decode cc pc = .ok (.invokespecial idx, 3)) (hmv : MV md na) (hlk : Cond.methodLink own idx md.1 ∈ zG) (hr : r' < rk) (hini : md.1.name = "<init>" ∧ md.2.2.2 = none) (hc : 0 ≤ c) (hM : AMet l md g r' mcx msx (.inr c :: as) n M post) (hst : as.reverse ++ .inr c :: st = st0) (hna : as.length = na) (h8 : st.length ≤ 8) (hf : kc + mcx ≤ mcR ∧ ks + msx ≤ msR) (hlen : la.length = nL)
    (kk : ∀ (r : Option AV) (n' : Nat) (M' : Mem), post r n' M' → AP X b0 D b g (kc + mcx) (ks + msx) Q n' M' (pc + 3) la (r.toList ++ st)) : AP X b0 D b g kc ks Q n M pc la st0 := by
  subst hst
  have hR := cx_R hC
  refine P_run (a0 := ((.inr c :: as).map (fx_co b0)).toArray) (mcx := mcx) (msx := msx) (post := post) (st := st) (cx_0 hC) (fun H locs ls hs hm hW hL => ?_) (fun v hv => List.mem_append_right _ (List.mem_cons_of_mem _ hv)) kk
  obtain ⟨c', rfl⟩ : ∃ c' : Nat, c = c' := ⟨c.toNat, by omega⟩
  have hcr : fx_co b0 (.inr (c' : Int)) = .ref (b0 + c') := by rw [fx_cr hc, Int.toNat_natCast]
  have hM' := hM b0 D
  rw [← cx_l hC] at hM'
  have hcw : (((.inr (c' : Int) :: as).map (fx_co b0)).toArray) = (Value.ref (b0 + c') :: as.map (fx_co b0)).toArray := by rw [List.map_cons, hcr]
  rw [hcw]
  obtain ⟨my, mb, mm, mr⟩ := md
  obtain ⟨h1, h2⟩ := hini
  dsimp only at h1 h2
  subst h2
  refine va_runI (As := as.map (fx_co b0)) (rest := st.map (fx_co b0)) ⟨cx_x hC, cx_b hC, cx_ml hC, cx_o hC, cx_t hC⟩ hM' ⟨fx_cB hC hmv.2.2.1 hmv.2.1 hmv.2.2.2.1 hmv.2.2.2.2 hlk hr, h1, cx_t hC _ hmv.1⟩ ⟨fx_blind, fun U hU hWm => ⟨by rw [List.map_cons, hcr], by rw [hU]; exact hW, fx_KK.warm hWm (cx_kk hC), fun v hv => ?_, hm⟩⟩ rfl (by simpa using hna) (by rw [← hlen]; exact hL.1) (by simp [List.map_append, hcr]) (lv_room (by rw [fx_catS]; exact h8)) hd ⟨by omega, by omega⟩
  rcases List.mem_cons.mp hv with rfl | hv
  · exact hs _ (List.mem_append_right _ List.mem_cons_self)
  · exact hs _ (List.mem_append_left _ (List.mem_reverse.mpr hv))
theorem P_new {idx ci N : Nat} (hC : CX X b0 D cc own nL ret l rk mcR msR) (hd : decode cc pc = .ok (.new idx, 3)) (hN : fx_N own idx ci N) (h100 : ci < 100) (hly : fx_ly n = (ci, N)) (hn : n < 2147483648) (hg : g = false) (h1 : kc + 1 ≤ mcR) (h2 : ks + N ≤ msR) (kk : AP X b0 D b g (kc + 1) (ks + N) Q (n + 1) (nw M n) (pc + 3) la (.inr n :: st)) : AP X b0 D b g kc ks Q n M pc la st := by
  intro hs hl hm H locs ls hW hS hL hPP
  obtain ⟨Cn, T, ty0, hq, hin, hty, g1, g2, g3, hdf⟩ := hN
  have hts := (cx_t hC)
  have hR0 := (cx_R hC)
  have hKn := (cx_k hC).1 ci _ hq
  refine W.newcK (cx_x hC) (cx_b hC) (cx_o hC) (hts _ g1) (hts _ g2) (hts _ g3) rfl hd (by omega) (by omega) hKn.2.1 hW.1 fun H1 kC hkC e1 z1 o1 => ?_
  obtain ⟨a1, a2⟩ := fx_pushed hW hS (H1 := H1) (by
    rw [fx_en_o hly h100]
    refine ⟨_, hq, (u_born ty0 hts hin hKn hkC e1 hty).to (fun j hj => ?_)⟩
    rw [hdf j hj]
    show _ = (fx_fs b0 ci N (nw M n) n).getD j .null
    rw [List.getD_eq_getElem?_getD, fx_fs_at hj]
    show _ = fx_co b0 (fx_fv ci j (nw M n n j))
    have e : nw M n n j = if fx_isr ci j = true then -1 else 0 := by
      unfold nw fx_rd
      rw [if_pos rfl, hly]
      simp only [show ¬ ci = 102 by omega, h100, if_true, if_false, Int.toNat_natCast]
    rw [e]
    unfold fx_fv
    cases fx_isr ci j <;> rfl) (by rw [z1, hW.1]) (fun q hq => o1 q (by rw [← hW.1]; exact hq))
  have k2 := kk (fx_Sc (v := .inr (n : Int)) (by show rg _; simp only [fx_v]; omega) hs) hl (fx_okM_nw hg hm) H1 locs ls a1 a2 hL hPP
  rw [List.map_cons, fx_cr (by omega), Int.toNat_natCast] at k2
  exact k2
theorem P_has0 {ls : Array Slot} (hL : fx_L b0 ls la) (h0 : ls[0]? = some (.val (.ref b))) : lv_has ls la.length ((0, Value.ref b) :: fx_ll b0 0 la) := ⟨hL.1, hL.2.1, fun q hq => by
  rcases List.mem_cons.mp hq with rfl | hq
  · exact h0
  · exact (fx_L_has hL).2.2 q hq⟩
theorem P_has1 {ls' : Array Slot} {N i : Nat} {v : Value} {lv : List (Nat × Value)} (hi : i ≠ 0) (h : lv_has ls' N ((i, v) :: ((0, Value.ref b) :: lv).filter (fun q => !(q.1 == i) && !(q.1 + 1 == i && q.2.category == 2)))) : lv_has ls' N ((i, v) :: lv.filter (fun q => !(q.1 == i) && !(q.1 + 1 == i && q.2.category == 2))) ∧ ls'[0]? = some (.val (.ref b)) := by
  have hf : (fun q : Nat × Value => !(q.1 == i) && !(q.1 + 1 == i && q.2.category == 2)) (0, Value.ref b) = true := by
    have : (0 == i) = false := by simp; omega
    have c1 : ((Value.ref b).category == 2) = false := rfl
    simp [this, c1]
  rw [List.filter_cons_of_pos (p := fun q : Nat × Value => !(q.1 == i) && !(q.1 + 1 == i && q.2.category == 2)) (a := (0, Value.ref b)) hf] at h
  obtain ⟨h1, h2, h3⟩ := h
  refine ⟨⟨h1, h2, fun q hq => ?_⟩, h3 (0, Value.ref b) (List.mem_cons_of_mem _ List.mem_cons_self)⟩
  rcases List.mem_cons.mp hq with rfl | hq
  · exact h3 _ List.mem_cons_self
  · exact h3 q (List.mem_cons_of_mem _ (List.mem_cons_of_mem _ hq))
theorem P_istore {i : Nat} {k4 : Fin 4} {x : Int} {la' : List (Option AV)} (hC : CX X b0 D cc own nL ret l rk mcR msR) (hd : decode cc pc = .ok (.istore_n k4, 1)) (hk : (k4 : Nat) = i) (h0 : i ≠ 0) (hi : i < la.length) (hla : la.set i (some (.inl x)) = la') (k : AP X b0 D b g kc ks Q n M (pc + 1) la' st) : AP X b0 D b g kc ks Q n M pc la (.inl x :: st) := by
  intro hs hl hm H locs ls hW hS hL hPP
  subst hla
  exact lv_istore_n (cx_x hC) (cx_b hC) hd hk (P_has0 hL hPP) hi rfl (fun ls' hl' => k (fx_St hs) (fx_Ls hl (fx_S1 hs)) hm H locs ls' hW hS (fx_L_set (v := .inl x) hi (P_has1 h0 hl').1) (P_has1 h0 hl').2)
theorem P_astore {i : Nat} {k4 : Fin 4} {x : Int} {la' : List (Option AV)} (hC : CX X b0 D cc own nL ret l rk mcR msR) (hd : decode cc pc = .ok (.astore_n k4, 1)) (hk : (k4 : Nat) = i) (h0 : i ≠ 0) (hx : 0 ≤ x) (hi : i < la.length) (hla : la.set i (some (.inr x)) = la') (k : AP X b0 D b g kc ks Q n M (pc + 1) la' st) : AP X b0 D b g kc ks Q n M pc la (.inr x :: st) := by
  intro hs hl hm H locs ls hW hS hL hPP
  subst hla
  have kk : ∀ ls' : Array Slot, lv_has ls' la.length ((i, fx_co b0 (.inr x)) :: ((0, Value.ref b) :: fx_ll b0 0 la).filter (fun q => !(q.1 == i) && !(q.1 + 1 == i && q.2.category == 2))) → WX X H locs kc ks Q (F0 (xm X) (pc + 1) ls' (st.map (fx_co b0))) := fun ls' hl' => k (fx_St hs) (fx_Ls hl (fx_S1 hs)) hm H locs ls' hW hS (fx_L_set (v := .inr x) hi (P_has1 h0 hl').1) (P_has1 h0 hl').2
  rw [List.map_cons]
  rw [fx_cr hx] at kk ⊢
  exact lv_astore_n (cx_x hC) (cx_b hC) hd hk (P_has0 hL hPP) hi rfl kk
theorem P_iinc3 {a0 a1 a2 : Option AV} {lt : List (Option AV)} {x v : Int} (hC : CX X b0 D cc own nL ret l rk mcR msR) (hd : decode cc pc = .ok (.iinc 3 v, 3)) (hr : rg (x + v)) (k : AP X b0 D b g kc ks Q n M (pc + 3) (a0 :: a1 :: a2 :: some (.inl (x + v)) :: lt) st) : AP X b0 D b g kc ks Q n M pc (a0 :: a1 :: a2 :: some (.inl x) :: lt) st := by
  intro hs hl hm H locs ls hW hS hL hPP
  obtain ⟨j, hj⟩ := List.getElem?_of_mem (List.mem_cons_of_mem (0, Value.ref b) ((fx_ll_mem (b0 := b0) (a0 :: a1 :: a2 :: some (.inl x) :: lt) 0 (3, fx_co b0 (.inl x))).mpr ⟨3, .inl x, rfl, rfl⟩))
  exact lv_iinc (k := j) (x := Int32.ofInt x) (v := Int32.ofInt (x + v)) (cx_x hC) (cx_b hC) hd (P_has0 hL hPP) hj (by rw [Int32.ofInt_add]) (by simp only [List.length_cons]; omega) rfl (fun ls' hl' => k hs (fx_Ls (i := 3) (v := .inl (x + v)) hl hr) hm H locs ls' hW hS (fx_L_set (i := 3) (v := .inl (x + v)) (by simp only [List.length_cons]; omega) (P_has1 (by decide) hl').1) (P_has1 (by decide) hl').2)
theorem P_ild3 {a0 a1 a2 : Option AV} {lt : List (Option AV)} {x : Int} (hC : CX X b0 D cc own nL ret l rk mcR msR) (hd : decode cc pc = .ok (.iload_n 3, 1)) (k : AP X b0 D b g kc ks Q n M (pc + 1) (a0 :: a1 :: a2 :: some (.inl x) :: lt) (.inl x :: st)) : AP X b0 D b g kc ks Q n M pc (a0 :: a1 :: a2 :: some (.inl x) :: lt) st := P_iload_n (i := 3) hC hd rfl rfl k
theorem P_ald1 {a0 : Option AV} {lt : List (Option AV)} {x : Int} (hC : CX X b0 D cc own nL ret l rk mcR msR) (hd : decode cc pc = .ok (.aload_n 1, 1)) (k : AP X b0 D b g kc ks Q n M (pc + 1) (a0 :: some (.inr x) :: lt) (.inr x :: st)) : AP X b0 D b g kc ks Q n M pc (a0 :: some (.inr x) :: lt) st := P_aload_n (i := 1) hC hd rfl rfl k
theorem P_ald2 {a0 a1 : Option AV} {lt : List (Option AV)} {x : Int} (hC : CX X b0 D cc own nL ret l rk mcR msR) (hd : decode cc pc = .ok (.aload_n 2, 1)) (k : AP X b0 D b g kc ks Q n M (pc + 1) (a0 :: a1 :: some (.inr x) :: lt) (.inr x :: st)) : AP X b0 D b g kc ks Q n M pc (a0 :: a1 :: some (.inr x) :: lt) st := P_aload_n (i := 2) hC hd rfl rfl k
/-- what the script holds at a place, as a number -/
def scv (xs : Nat → Int32) (i : Int) : Int := (xs i.toNat).toInt
theorem scv_rg (xs : Nat → Int32) (i : Int) : rg (scv xs i) := by
  have h1 := Int32.le_toInt (xs i.toNat)
  have h2 := Int32.toInt_lt (xs i.toNat)
  unfold scv
  constructor <;> omega
theorem scv_of (xs : Nat → Int32) (i : Int) : Int32.ofInt (scv xs i) = xs i.toNat := Int32.ofInt_toInt _
/-- aload_0; iload_3; iconst k; iadd; iaload -/
theorem P_scr {a1 a2 : Option AV} {lt : List (Option AV)} {i k : Int} {L : Nat} {xv : Nat → Int32} (hC : CX X b0 D cc own nL ret l rk mcR msR) (hX : va_X b L xv (xs X) (xs X).heap) (hb : b < b0) (hb0 : b0 = (xs X).heap.size) (d0 : decode cc pc = .ok (.aload_n 0, 1)) (d1 : decode cc (pc + 1) = .ok (.iload_n 3, 1)) (d2 : decode cc (pc + 1 + 1) = .ok (.iconst k, 1)) (d3 : decode cc (pc + 1 + 1 + 1) = .ok (.iadd, 1)) (d4 : decode cc (pc + 1 + 1 + 1 + 1) = .ok (.iaload, 1)) (hi : 0 ≤ i ∧ 0 ≤ k ∧ i + k < L) (hL0 : L ≤ 2560) (kk : AP X b0 D b g kc ks Q n M (pc + 1 + 1 + 1 + 1 + 1) (none :: a1 :: a2 :: some (.inl i) :: lt) (.inl (scv xv (i + k)) :: st)) : AP X b0 D b g kc ks Q n M pc (none :: a1 :: a2 :: some (.inl i) :: lt) st := by
  intro hs hl hm H locs ls hW hS hL hPP
  have hri : rg (i + k) := by constructor <;> omega
  have k2 := kk (fx_Sc (scv_rg xv (i + k)) hs) hl hm H locs ls hW hS hL hPP
  refine lv_aload_n (cx_x hC) (cx_b hC) d0 rfl hPP ?_
  refine lv_iload_n (cx_x hC) (cx_b hC) d1 rfl (hL.2.2 3 (.inl i) rfl) ?_
  refine lv_iconst (cx_x hC) (cx_b hC) d2 rfl ?_
  refine lv_iadd (cx_x hC) (cx_b hC) d3 ?_
  rw [← Int32.ofInt_add]
  refine va_sld (cx_x hC) (cx_b hC) hX (by rw [← hb0]; exact hb) (by omega) hS (fx_in (by omega) (by omega) hri) d4 ?_
  rw [fx_clamp hri]
  have e : (Value.int (xv (i + k).toNat) :: st.map (fx_co b0)) = (.inl (scv xv (i + k)) :: st).map (fx_co b0) := by
    rw [List.map_cons]
    show _ = Value.int (Int32.ofInt (scv xv (i + k))) :: _
    rw [scv_of]
  rw [e]
  exact k2
/-- aload_0; iload_3; iaload -/
theorem P_scr0 {a1 a2 : Option AV} {lt : List (Option AV)} {i : Int} {L : Nat} {xv : Nat → Int32} (hC : CX X b0 D cc own nL ret l rk mcR msR) (hX : va_X b L xv (xs X) (xs X).heap) (hb : b < b0) (hb0 : b0 = (xs X).heap.size) (d0 : decode cc pc = .ok (.aload_n 0, 1)) (d1 : decode cc (pc + 1) = .ok (.iload_n 3, 1)) (d4 : decode cc (pc + 1 + 1) = .ok (.iaload, 1)) (hi : 0 ≤ i ∧ i < L) (hL0 : L ≤ 2560) (kk : AP X b0 D b g kc ks Q n M (pc + 1 + 1 + 1) (none :: a1 :: a2 :: some (.inl i) :: lt) (.inl (scv xv i) :: st)) : AP X b0 D b g kc ks Q n M pc (none :: a1 :: a2 :: some (.inl i) :: lt) st := by
  intro hs hl hm H locs ls hW hS hL hPP
  have hri : rg i := by constructor <;> omega
  have k2 := kk (fx_Sc (scv_rg xv i) hs) hl hm H locs ls hW hS hL hPP
  refine lv_aload_n (cx_x hC) (cx_b hC) d0 rfl hPP ?_
  refine lv_iload_n (cx_x hC) (cx_b hC) d1 rfl (hL.2.2 3 (.inl i) rfl) ?_
  refine va_sld (cx_x hC) (cx_b hC) hX (by rw [← hb0]; exact hb) (by omega) hS (fx_in (by omega) (by omega) hri) d4 ?_
  rw [fx_clamp hri]
  have e : (Value.int (xv i.toNat) :: st.map (fx_co b0)) = (.inl (scv xv i) :: st).map (fx_co b0) := by
    rw [List.map_cons]
    show _ = Value.int (Int32.ofInt (scv xv i)) :: _
    rw [scv_of]
  rw [e]
  exact k2
/-- aload_0; arraylength -/
theorem P_slen {L : Nat} {xv : Nat → Int32} (hC : CX X b0 D cc own nL ret l rk mcR msR) (hX : va_X b L xv (xs X) (xs X).heap) (hb : b < b0) (hb0 : b0 = (xs X).heap.size) (d0 : decode cc pc = .ok (.aload_n 0, 1)) (d1 : decode cc (pc + 1) = .ok (.arraylength, 1)) (hL0 : L ≤ 2560) (kk : AP X b0 D b g kc ks Q n M (pc + 1 + 1) la (.inl (L : Int) :: st)) : AP X b0 D b g kc ks Q n M pc la st := by
  intro hs hl hm H locs ls hW hS hL hPP
  have k2 := kk (fx_Sc (v := .inl (L : Int)) (by show rg _; simp only [fx_v]; constructor <;> omega) hs) hl hm H locs ls hW hS hL hPP
  refine lv_aload_n (cx_x hC) (cx_b hC) d0 rfl hPP ?_
  refine va_slen (cx_x hC) (cx_b hC) hX (by rw [← hb0]; exact hb) (by omega) hS d1 ?_
  have e : (Value.int (Int32.ofNat L) :: st.map (fx_co b0)) = (.inl (L : Int) :: st).map (fx_co b0) := by
    rw [List.map_cons]
    show _ = Value.int (Int32.ofInt (L : Int)) :: _
    rw [Int32.ofInt_eq_ofNat]
  rw [e]
  exact k2
theorem P_g (hg : fx_gc M) (k : AP X b0 D b true kc ks Q n M pc la st) : AP X b0 D b false kc ks Q n M pc la st := fun h1 h2 h3 => k h1 h2 ⟨h3.1, fun _ => hg⟩
theorem P_rng (k : fx_okS st → fx_okL la → fx_okM g M → AP X b0 D b g kc ks Q n M pc la st) : AP X b0 D b g kc ks Q n M pc la st := fun h1 h2 h3 => k h1 h2 h3 h1 h2 h3
end ROWSP
