theorem P_wide {X : Cx} {b0 : Nat} {D : DD} {b : Nat} {g : Bool} {kc ks kc' ks' : Nat} {Q : State → Prop} {n : Nat} {M : Mem} {pc : Nat} {la : List (Option AV)} {st : List AV} (h1 : kc ≤ kc') (h2 : ks ≤ ks') (k : AP X b0 D b g kc' ks' Q n M pc la st) : AP X b0 D b g kc ks Q n M pc la st := fun a c d H locs ls e f g h => W.widen h1 h2 (k a c d H locs ls e f g h)
set_option maxHeartbeats 4000000 in
theorem law_loop {X : Cx} {b0 : Nat} {D : DD} {b : Nat} {Q : State → Prop} {l : Launch} {L : Nat} {xv : Nat → Int32} (hC : CX X b0 D code R_L 4 (some .boolean) l 100 600000 7302250) (hX : va_X b L xv (xs X) (xs X).heap) (hb : b < b0) (hb0 : b0 = (xs X).heap.size) (hL : L ≤ 2560) (hend : ∀ (H : Heap) (locs : List Loc) (ls : Array Slot), (∀ q ∈ locs, b0 ≤ q.base) → WX X H locs 600000 7302250 Q (F0 (xm X) 586 ls [.int 1])) : ∀ (f : Nat) (i : Int) (M : Mem), 0 ≤ i → i ≤ 2560 → (L : Int) < i + 5 * ((f : Int) + 1) → REL M → AP X b0 D b true 600000 7302250 Q 117 M 18 [none, some (.inr 0), some (.inr 88), some (.inl i)] [] := by
  intro f
  induction f with
  | zero =>
    intro i M h0 h1 hf hR
    refine P_ild3 hC d_L_law_18 ?_
    refine P_slen hC hX hb hb0 d_L_law_19 d_L_law_20 hL ?_
    refine P_iconst hC d_L_law_21 (by decide) ?_
    refine P_isub hC d_L_law_22 (by omega) ?_
    refine P_icmpgt (tgt := 585) hC d_L_law_23 (by decide) (fun hq => ?_) (fun hq => ?_)
    · refine P_iconst hC d_L_law_585 (by decide) ?_
      intro hs hl hm H locs ls hW hS hL hPP
      exact hend H locs ls hS.2.2
    · exact absurd (by omega) hq
  | succ f ih =>
    intro i M h0 h1 hf hR
    refine P_ild3 hC d_L_law_18 ?_
    refine P_slen hC hX hb hb0 d_L_law_19 d_L_law_20 hL ?_
    refine P_iconst hC d_L_law_21 (by decide) ?_
    refine P_isub hC d_L_law_22 (by omega) ?_
    refine P_icmpgt (tgt := 585) hC d_L_law_23 (by decide) (fun hq => ?_) (fun hq => ?_)
    · refine P_iconst hC d_L_law_585 (by decide) ?_
      intro hs hl hm H locs ls hW hS hL hPP
      exact hend H locs ls hS.2.2
    · have hi : 0 ≤ i ∧ i + 5 ≤ (L : Int) := ⟨h0, by omega⟩
      have next : ∀ M2 : Mem, REL M2 → AP X b0 D b true 600000 7302250 Q 117 M2 579 [none, some (.inr 0), some (.inr 88), some (.inl i)] [] := fun M2 hR2 => by
        refine P_iinc3 hC d_L_law_579 (by omega) ?_
        refine P_goto (tgt := 18) hC d_L_law_582 (by decide) ?_
        exact ih (i + 5) M2 (by omega) (by omega) (by omega) hR2
      refine P_scr0 hC hX hb hb0 d_L_law_26 d_L_law_27 d_L_law_28 (by omega) hL ?_
      refine P_bipush hC d_L_law_29 (by decide) (by decide) ?_
      refine P_iand15 hC d_L_law_31 ?_
      refine P_tsw (td := 579) [108, 121, 190, 213, 256, 299, 332, 365, 418, 441, 464, 477, 500, 523, 556] hC d_L_law_32 (by decide) (by decide) (by decide) ⟨fun _ => law_0 hC hX hb hb0 hL i hi M hR next, fun _ => law_1 hC hX hb hb0 hL i hi M hR next, fun _ => law_2 hC hX hb hb0 hL i hi M hR next, fun _ => law_3 hC hX hb hb0 hL i hi M hR next, fun _ => law_4 hC hX hb hb0 hL i hi M hR next, fun _ => law_5 hC hX hb hb0 hL i hi M hR next, fun _ => law_6 hC hX hb hb0 hL i hi M hR next, fun _ => law_7 hC hX hb hb0 hL i hi M hR next, fun _ => law_8 hC hX hb hb0 hL i hi M hR next, fun _ => law_9 hC hX hb hb0 hL i hi M hR next, fun _ => law_10 hC hX hb hb0 hL i hi M hR next, fun _ => law_11 hC hX hb hb0 hL i hi M hR next, fun _ => law_12 hC hX hb hb0 hL i hi M hR next, fun _ => law_13 hC hX hb hb0 hL i hi M hR next, fun _ => law_14 hC hX hb hb0 hL i hi M hR next, trivial⟩ (fun _ => next M hR)
theorem nest_in : ∀ q ∈ fx_nest, Cond.methodLinkNest q.1 q.2.1 q.2.2.1 q.2.2.2 ∈ lw_tbl := by
  unfold fx_nest
  exact List.forall_mem_cons.mpr ⟨List.mem_of_getElem? (i := 65) (by decide +kernel), List.forall_mem_cons.mpr ⟨List.mem_of_getElem? (i := 91) (by decide +kernel), List.forall_mem_cons.mpr ⟨List.mem_of_getElem? (i := 114) (by decide +kernel), List.forall_mem_cons.mpr ⟨List.mem_of_getElem? (i := 248) (by decide +kernel), List.forall_mem_cons.mpr ⟨List.mem_of_getElem? (i := 593) (by decide +kernel), List.forall_mem_cons.mpr ⟨List.mem_of_getElem? (i := 463) (by decide +kernel), List.forall_mem_cons.mpr ⟨List.mem_of_getElem? (i := 363) (by decide +kernel), List.forall_mem_cons.mpr ⟨List.mem_of_getElem? (i := 433) (by decide +kernel), (fun p hp => absurd hp List.not_mem_nil)⟩⟩⟩⟩⟩⟩⟩⟩
/-- the classes and array classes, as the tables have them at the start -/
theorem start_KK {s : State} {b : Nat} (hall : ∀ w ∈ lw_tbl, w.before #[Value.ref b] s = true) : ∃ D : DD, fx_KK D s := by
  have hts : ∀ w ∈ zG, w.before #[Value.ref b] s = true := fun w hw => hall w (zG_sub hw)
  obtain ⟨c0, i0, k0⟩ := u_known hts hin_G (hts (Cond.instantiable R_G 6) (zG_in 56 (by decide +kernel) rfl))
  obtain ⟨c1, i1, k1⟩ := u_known hts hin_Sc (hts (Cond.instantiable R_Sc 5) (zG_in 64 (by decide +kernel) rfl))
  obtain ⟨c2, i2, k2⟩ := u_known hts hin_Ro (hts (Cond.instantiable R_Ro 5) (zG_in 90 (by decide +kernel) rfl))
  obtain ⟨c3, i3, k3⟩ := u_known hts hin_Te (hts (Cond.instantiable R_Te 4) (zG_in 113 (by decide +kernel) rfl))
  obtain ⟨c4, i4, k4⟩ := u_known hts hin_Pl (hts (Cond.instantiable R_Pl 6) (zG_in 137 (by decide +kernel) rfl))
  obtain ⟨c5, i5, k5⟩ := u_known hts hin_St (hts (Cond.instantiable R_St 11) (zG_in 144 (by decide +kernel) rfl))
  obtain ⟨c6, i6, k6⟩ := u_known hts hin_Co (hts (Cond.instantiable R_Co 5) (zG_in 220 (by decide +kernel) rfl))
  obtain ⟨c7, i7, k7⟩ := u_known hts hin_Pa (hts (Cond.instantiable R_Pa 5) (zG_in 247 (by decide +kernel) rfl))
  obtain ⟨c8, i8, k8⟩ := u_known hts hin_As (hts (Cond.instantiable R_As 7) (zG_in 218 (by decide +kernel) rfl))
  obtain ⟨c9, i9, k9⟩ := u_known hts hin_Mo (hts (Cond.instantiable R_Mo 36) (zG_in 599 (by decide +kernel) rfl))
  obtain ⟨cI, kI, cpI, f1, f2, f3⟩ := Cond.arrayClass_spec (hts _ za_int)
  obtain ⟨cZ, kZ, cpZ, f4, f5, f6⟩ := Cond.arrayClass_spec (hts _ za_bool)
  have hAO : (Cond.arrayOver (.object fx_elem)).before #[Value.ref b] s = true := hall _ (List.mem_of_getElem? (i := 143) (by decide +kernel))
  obtain ⟨cpS, cS, kS, f7, f8, f9, f10, f11⟩ := Cond.arrayOver_spec hAO
  refine ⟨((fun c => match c with | 0 => c0 | 1 => c1 | 2 => c2 | 3 => c3 | 4 => c4 | 5 => c5 | 6 => c6 | 7 => c7 | 8 => c8 | _ => c9, fun c => match c with | 0 => i0 | 1 => i1 | 2 => i2 | 3 => i3 | 4 => i4 | 5 => i5 | 6 => i6 | 7 => i7 | 8 => i8 | _ => i9), fun k => match k with | 0 => cI | 1 => cZ | _ => cS), ⟨fun c q hq => ?_, fun k q hq => ?_⟩, va_AO.of hAO, fun q hq => va_Nw.of rfl (hall _ (nest_in q hq))⟩
  · rcases c with _ | _ | _ | _ | _ | _ | _ | _ | _ | _ | c
    · cases hq; exact k0
    · cases hq; exact k1
    · cases hq; exact k2
    · cases hq; exact k3
    · cases hq; exact k4
    · cases hq; exact k5
    · cases hq; exact k6
    · cases hq; exact k7
    · cases hq; exact k8
    · cases hq; exact k9
    · simp at hq
  · rcases k with _ | _ | _ | k
    · cases hq; exact ⟨fun N z => ⟨(fun k h => by cases h), kI, f2, cpI, f3⟩, f1⟩
    · cases hq; exact ⟨fun N z => ⟨(fun k h => by cases h), kZ, f5, cpZ, f6⟩, f4⟩
    · cases hq; exact ⟨fun N z => ⟨(fun k h => by cases h), kS, f9, cpS, f10⟩, kS, cpS, f9, f10, f7, f11⟩
    · simp [fx_tys] at hq
set_option maxHeartbeats 4000000 in
theorem whole_start {p : Program} {e : Env} {s : State} {m : MethodId} {below : List Frame} {meth : Method} {c : Code} (l : Launch) {b L : Nat} {xs : Nat → Int32} (hL : L ≤ 2560) (C0 : lw_At p s m meth c b L xs) : W p l e room_1 s m #[Value.ref b] below meth c s.heap [] 0 0 (lw_Z below #[Value.ref b] s) (entryFrame m ([Value.ref b] : List Value).toArray 4) := by
  obtain ⟨hx, hcode, hret, hml, hown, hall, hXs, hbl, hlk, hgv⟩ := C0
  obtain ⟨D, hKK⟩ := start_KK hall
  have hC : CX (p, l, e, room_1, s, m, #[Value.ref b], below, meth, c) s.heap.size D code R_L 4 (some .boolean) l 100 600000 7302250 := ⟨hx, hcode, hml, hown, fun w hw => hall w (zG_sub hw), hKK, Nat.le_refl _, hlk, hret, rfl, (by decide : 100 ≤ room_1.frames), (by decide : 40 * 100 ≤ room_1.locals), (by decide : 600000 ≤ room_1.cells), (by decide : 7302250 ≤ room_1.slots)⟩
  have key : AP (p, l, e, room_1, s, m, #[Value.ref b], below, meth, c) s.heap.size D b false 0 0 (lw_Z below #[Value.ref b] s) 0 (fun _ _ => 0) 0 [none, none, none, none] [] := by
    refine P_new hC d_L_law_0 fN_L_7 (by decide) ly_0 (by decide) rfl (by decide) (by decide) ?_
    refine P_dup hC d_L_law_3 ?_
    refine P_callI (as := []) hC d_L_law_4 mv_G_init lk_L_9 (by decide) ⟨rfl, rfl⟩ (by decide) (k_G_init l (nw (fun _ _ => 0) ((0 : Nat) : Int))) rfl rfl (Nat.le_of_ble_eq_true rfl) (by decide) rfl (fun r' n' M1 h => ?_)
    obtain ⟨rfl, rfl, hG⟩ := h
    refine P_astore (i := 1) (la' := [none, some (.inr 0), none, none]) hC d_L_law_7 rfl (by decide) (by decide) (by decide) rfl ?_
    refine P_new hC d_L_law_8 fN_L_10 (by decide) ly_88 (by decide) rfl (by decide) (by decide) ?_
    refine P_dup hC d_L_law_11 ?_
    refine P_callI (as := []) hC d_L_law_12 mv_Mo_init lk_L_12 (by decide) ⟨rfl, rfl⟩ (by decide) (k_Mo_init l (nw M1 88)) rfl rfl (Nat.le_of_ble_eq_true rfl) (by decide) rfl (fun r' n' M2 h => ?_)
    obtain ⟨rfl, rfl, rfl⟩ := h
    refine P_astore (i := 2) (la' := [none, some (.inr 0), some (.inr 88), none]) hC d_L_law_15 rfl (by decide) (by decide) (by decide) rfl ?_
    refine P_iconst hC d_L_law_16 (by decide) ?_
    refine P_istore (i := 3) (la' := [none, some (.inr 0), some (.inr 88), some (.inl 0)]) hC d_L_law_17 rfl (by decide) (by decide) rfl ?_
    have hMP := MP_of M1
    refine P_g (start_gc hG hMP) (P_wide (kc' := 600000) (ks' := 7302250) (by decide) (by decide) ?_)
    refine law_loop hC hXs hbl rfl hL (fun H locs ls hq => ?_) 512 0 _ (by decide) (by decide) (by omega) (start_REL hG hMP)
    have h1 : W p l e room_1 s m #[Value.ref b] below meth c H [] 600000 7302250 (lw_Z below #[Value.ref b] s) (F0 m 586 ls [.int 1]) := lw_ret hx hcode hret hlk d_L_law_586
    have h2 := W.forget (L := locs) hq h1
    rw [List.nil_append] at h2
    exact h2
  rw [lg_entry_eq]
  have h1 := lv_entry [Value.ref b] (n := 4) (show (1 : Nat) ≤ 4 by decide)
  obtain ⟨h2, h3, h4⟩ := h1
  refine key (fun v h => absurd h List.not_mem_nil) (fun v h => by simp at h) ⟨fun c k => (by decide : rg 0), fun h => by cases h⟩ s.heap [] _ ⟨rfl, fun k q hq => by cases hq⟩ va_S.rf ⟨h2, h3, fun i v hi => ?_⟩ (h4 (0, Value.ref b) (by simp [lv_args]))
  rcases i with _ | _ | _ | _ | i
  · cases hi
  · cases hi
  · cases hi
  · cases hi
  · simp at hi
set_option maxHeartbeats 4000000 in
theorem lw_walk (l : Launch) (b : Addr) (xs : List Int32) : MetFree l x (headSpec (Jvm.Cond.code x code maxLocals ret :: tables_1) room_1) (lw_P b xs) (fun _ _ _ _ _ => True) lw_Q := by
  refine MetFree.of_bodyS (code := code) (maxLocals := maxLocals) (ret := ret) (by decide) ?_ ?_
  · intro args s m h hn
    obtain ⟨meth, c, h1, h2, h3, h4, h5, h6, -, -⟩ := Cond.code_spec hn (atoms_spec (ws := Jvm.Cond.code x code maxLocals ret :: tables_1) h _ List.mem_cons_self)
    exact ⟨meth, c, h1, h2, h3, h4, h5, h6⟩
  · intro p e s m args below meth c s₁ B hml0 hP _
    obtain ⟨rfl, hx, hbd, hgv⟩ := hP
    obtain ⟨scr, harrAt, hlist, hof, hsmall⟩ := hx
    obtain ⟨hcb, hkn, -, -⟩ := State.arrayAt?_spec harrAt
    have hown : s.vm.findClass R_law = some m.cls := findClass_of_methodNamed B.named
    have hts0 : ∀ c ∈ (Jvm.Cond.code x code maxLocals ret :: tables_1), c.before #[Value.ref b] s = true := atoms_spec (ws := Jvm.Cond.code x code maxLocals ret :: tables_1) B.pre
    have hts : ∀ w ∈ lw_tbl, w.before #[Value.ref b] s = true := k2_hts_sels lw_privs (fun w hw => hts0 w (List.mem_cons_of_mem _ hw)) lw_privs_ok
    have hml : c.maxLocals = 4 := B.maxLocals_eq (hts0 _ List.mem_cons_self)
    have X₀ : Stand p l e room_1 s m #[Value.ref b] below meth c s₁ [] 0 0 := Stand.of_body B
    have hh0 : s₁.heap = s.heap := by rw [B.state]; rfl
    have hsz : scr.slots.size = xs.length := by rw [← Array.length_toList, hlist, List.length_map]
    have hval : ∀ j : Nat, j < xs.length → scr.slots[j]? = some (.int (xs.getD j 0)) := fun j hj => by
      rw [← Array.getElem?_toList, hlist]
      simp [hj]
    have hbl : b < s.heap.size := (Array.getElem?_eq_some_iff.mp hcb).1
    have hX : va_X b xs.length (fun j => xs.getD j 0) s s.heap := ⟨scr, hcb, hof, hkn, hsz, hval⟩
    have K : W p l e room_1 s m #[Value.ref b] below meth c s₁.heap [] 0 0 (lw_Z below #[Value.ref b] s) (entryFrame m ([Value.ref b] : List Value).toArray 4) := by
      rw [hh0]
      exact whole_start l hbd ⟨B.exec, B.bytes, B.returns, hml, hown, hts, hX, hbl, B.notSynchronized, hgv⟩
    obtain ⟨t, a1, o, b1, b2, b3⟩ := K s₁ rfl X₀
    exact ⟨t, o, a1, b1, b2, b3⟩
theorem lw_pre_spec {args : Array Value} {s : State} (h : (Jvm.Cond.and given_1 narrow_1).before args s = true) (hr : rest_1_c.before args s = true) : ∃ (b : Addr) (xs : List Int32), lw_P b xs args s := by
  have hs := flat_of_before _ h
  have hq := flat_of_before _ hr
  have hc : (Cond.count 1).before args s = true := hs _ (by decide +kernel)
  have harr : (Cond.arrayOf (.arg 0) .int).before args s = true := hs _ (by decide +kernel)
  have hle : (Cond.le (.length (.arg 0)) (.int 2560)).before args s = true := hs _ (by decide +kernel)
  have hlen : (Cond.isInt (.length (.arg 0))).before args s = true := hq _ (by decide +kernel)
  have hall : (Cond.all (.arg 0) (.isInt (.elem (.arg 0) (.index 0)))).before args s = true := hq _ (by decide +kernel)
  obtain ⟨b, xs, hb, hx⟩ := State.ints_of_pre rfl harr hlen hall
  have hsm : xs.length < 2 ^ 31 := hx.choose_spec.2.2.2
  have hev : (Term.length (.arg 0)).eval args s none [] s = some (.int xs.length.toInt32) := hx.length_eval hb
  have hv := Cond.le_ints hev (show (Term.int 2560).eval args s none [] s = some (.int 2560) from rfl)
  have hd : xs.length.toInt32 ≤ 2560 := by
    simpa [Cond.before, Cond.holds, hv] using hle
  have hN : xs.length ≤ 2560 := (Int32.ofNat_le_ofNat hsm (by decide)).mp (show Int32.ofNat xs.length ≤ Int32.ofNat 2560 from hd)
  exact ⟨b, xs, Cond.one_arg hc (show args[0]? = some (.ref b) from hb), hx, hN, h⟩
theorem lw_comes (l : Launch) : Comes l x (Jvm.Cond.code x code maxLocals ret :: tables_1) room_1 (fun tb e args s => Calls_1 tb e args s ∧ rest_1 tb e args s ∧ Pre_1 tb e args s)
    (fun _ _ args s o t => lw_Q args s o t) := by
  intro p e ha hc hk s m args below hf hfit hheap happ hpre
  obtain ⟨b, xs, hP⟩ := lw_pre_spec hpre.2.2 hpre.2.1
  obtain ⟨k, o, h1, h2, h3, hQ⟩ := lw_walk l b xs p e ha hc hk s m args below hf ((Spec.applies_iff_loose hf).mp happ).1 hP trivial
  exact ⟨k, o, h1, h2, h3, hQ⟩
theorem lw_frame {s t : State} {o : Outcome} {args : Array Value} (h : Framed s o t [] 600000 7302250) :
    Framed s o t (fieldLocs frame_1_writes args s ++ arrayLocs frame_1_arrays args s ++ staticLocs frame_1_statics s) 600000 7302250 := h
theorem lw_limb (L : Cond) (hL : ∀ (args : Array Value) (s t : State), L.after args s (.returned (some (.int 1))) t = true) :
    ArmFor flags0 classFile x code maxLocals ret World_1 tables_1 room_1 Calls_1 rest_1 Pre_1
      (fun tb e a s o t => postC L tb e a s o t ∧ Framed s o t (fieldLocs frame_1_writes a s ++ arrayLocs frame_1_arrays a s ++ staticLocs frame_1_statics s) 600000 7302250) := by
  intro l _ _ _ p e ha hc hk s m args below hf hfit hheap happ hpre
  obtain ⟨k, o, h1, h2, h3, rfl, hF⟩ := lw_comes l p e ha hc hk s m args below hf hfit hheap happ hpre
  exact ⟨k, _, h1, h2, h3, hL args s _, lw_frame hF⟩
theorem i_vc : Claimed_1_1 ∧ Claimed_1_2 := ⟨lw_limb limb_1_1 (fun args s t => by simp [limb_1_1, Cond.after, Cond.holds, Cond.value]), lw_limb limb_1_2 (fun args s t => Cond.after_iff.mpr (by
  first | (rw [show limb_1_2 = Cond.eq .result (.int 1) from rfl, Cond.eq_ints (x := 1) (y := 1) rfl rfl]; simp; done) | (simp [limb_1_2, Cond.value, Term.eval]; done)))⟩
