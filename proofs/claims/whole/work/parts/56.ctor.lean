-- ===== the constructors (nothing is constant yet)
theorem nw_nc {M : Mem} {c c' k : Int} (h : c' ≠ c) : nw M c c' k = M c' k := by unfold nw; rw [if_neg h]
theorem nw_0 {M : Mem} {c k : Int} (h : fx_rd c k = false) : nw M c c k = 0 := by unfold nw; rw [if_pos rfl, h]; rfl
theorem nw_1 {M : Mem} {c k : Int} (h : fx_rd c k = true) : nw M c c k = -1 := by unfold nw; rw [if_pos rfl, h]; rfl
theorem nw_a {M : Mem} {c k : Int} {ty N : Nat} (h : fx_ly c = (ty, N)) (h2 : ty = 100 ∨ ty = 101) : nw M c c k = 0 := nw_0 (by unfold fx_rd; rw [h]; dsimp only; rw [if_neg (by omega), if_neg (by omega)])
theorem fN_As_9 : fx_N R_As 9 7 5 := ⟨R_Pa, T_Pa, ty_Pa, rfl, hin_Pa, tyok_Pa, zG_in 246 (by decide +kernel) rfl, zG_in 247 (by decide +kernel) rfl, zG_in 51 (by decide +kernel) rfl, fun k hk => by rcases k with _ | _ | _ | _ | _ | k <;> first | rfl | omega⟩
theorem fN_Pl_9 : fx_N R_Pl 9 5 11 := ⟨R_St, T_St, ty_St, rfl, hin_St, tyok_St, zG_in 142 (by decide +kernel) rfl, zG_in 144 (by decide +kernel) rfl, zG_in 48 (by decide +kernel) rfl, fun k hk => by rcases k with _ | _ | _ | _ | _ | _ | _ | _ | _ | _ | _ | k <;> first | rfl | omega⟩
theorem cn_Pl_9 : Cond.classLink R_Pl 9 fx_elem ∈ zG := zG_in 142 (by decide +kernel) rfl
theorem fN_G_16 : fx_N R_G 16 2 5 := ⟨R_Ro, T_Ro, ty_Ro, rfl, hin_Ro, tyok_Ro, zG_in 89 (by decide +kernel) rfl, zG_in 90 (by decide +kernel) rfl, zG_in 45 (by decide +kernel) rfl, fun k hk => by rcases k with _ | _ | _ | _ | _ | k <;> first | rfl | omega⟩
theorem fN_G_23 : fx_N R_G 23 3 4 := ⟨R_Te, T_Te, ty_Te, rfl, hin_Te, tyok_Te, zG_in 112 (by decide +kernel) rfl, zG_in 113 (by decide +kernel) rfl, zG_in 46 (by decide +kernel) rfl, fun k hk => by rcases k with _ | _ | _ | _ | k <;> first | rfl | omega⟩
theorem fN_G_34 : fx_N R_G 34 4 6 := ⟨R_Pl, T_Pl, ty_Pl, rfl, hin_Pl, tyok_Pl, zG_in 136 (by decide +kernel) rfl, zG_in 137 (by decide +kernel) rfl, zG_in 47 (by decide +kernel) rfl, fun k hk => by rcases k with _ | _ | _ | _ | _ | _ | k <;> first | rfl | omega⟩
theorem fN_G_43 : fx_N R_G 43 8 7 := ⟨R_As, T_As, ty_As, rfl, hin_As, tyok_As, zG_in 217 (by decide +kernel) rfl, zG_in 218 (by decide +kernel) rfl, zG_in 49 (by decide +kernel) rfl, fun k hk => by rcases k with _ | _ | _ | _ | _ | _ | _ | k <;> first | rfl | omega⟩
theorem fN_G_45 : fx_N R_G 45 6 5 := ⟨R_Co, T_Co, ty_Co, rfl, hin_Co, tyok_Co, zG_in 219 (by decide +kernel) rfl, zG_in 220 (by decide +kernel) rfl, zG_in 50 (by decide +kernel) rfl, fun k hk => by rcases k with _ | _ | _ | _ | _ | k <;> first | rfl | omega⟩
theorem fN_G_9 : fx_N R_G 9 1 5 := ⟨R_Sc, T_Sc, ty_Sc, rfl, hin_Sc, tyok_Sc, zG_in 63 (by decide +kernel) rfl, zG_in 64 (by decide +kernel) rfl, zG_in 44 (by decide +kernel) rfl, fun k hk => by rcases k with _ | _ | _ | _ | _ | k <;> first | rfl | omega⟩
theorem fN_L_10 : fx_N R_L 10 9 36 := ⟨R_Mo, T_Mo, ty_Mo, rfl, hin_Mo, tyok_Mo, zG_in 598 (by decide +kernel) rfl, zG_in 599 (by decide +kernel) rfl, zG_in 52 (by decide +kernel) rfl, fun k hk => by rcases k with _ | _ | _ | _ | _ | _ | _ | _ | _ | _ | _ | _ | _ | _ | _ | _ | _ | _ | _ | _ | _ | _ | _ | _ | _ | _ | _ | _ | _ | _ | _ | _ | _ | _ | _ | _ | k <;> first | rfl | omega⟩
theorem fN_L_7 : fx_N R_L 7 0 6 := ⟨R_G, T_G, ty_G, rfl, hin_G, tyok_G, zG_in 55 (by decide +kernel) rfl, zG_in 56 (by decide +kernel) rfl, zG_in 43 (by decide +kernel) rfl, fun k hk => by rcases k with _ | _ | _ | _ | _ | _ | k <;> first | rfl | omega⟩
def scM (M : Mem) : Mem := up (nw (up (nw (up (nw (up (nw M 2) 1 0 2) 3) 1 1 3) 4) 1 2 4) 5) 1 3 5
set_option maxHeartbeats 4000000 in
theorem k_Sc_init (l : Launch) (M : Mem) : AMet l m_Sc_init false 2 4 65 [.inr 1] 2 M (fun r n' M' => r = none ∧ n' = 6 ∧ M' = scM M) := by
  refine AM_intro (by decide) (Nat.le_of_ble_eq_true rfl) (fun X b0 D hC hname => ?_)
  show AW X b0 D false 0 0 _ 2 M 0 [some (.inr 1)] []
  refine A_ald0 hC d_Sc_init_0 ?_
  refine A_objInit hC d_Sc_init_1 lk_Sc_3 zo_inst zo_code (by decide) (by decide) (Nat.le_of_ble_eq_true rfl) rfl ?_
  show AW X b0 D false 0 0 _ 2 M 4 [some (.inr 1)] []
  refine A_ald0 hC d_Sc_init_4 ?_
  refine A_iconst hC d_Sc_init_5 (by decide) ?_
  refine A_newa (N := 5) hC d_Sc_init_6 za_int rfl (Or.inl ⟨rfl, rfl, rfl⟩) ly_2 (by decide) (by decide) rfl (by decide) (by decide) ?_
  show AW X b0 D false 1 5 _ 3 (nw M 2) 8 [some (.inr 1)] [.inr 2, .inr 1]
  refine A_put (c := 1) (x := 2) (k := 0) hC d_Sc_init_8 fP_Sc_9 (fun _ => ⟨hname, fun Cn T h => by cases h; rfl⟩) (by decide) (fx_isR 1 0 _ rfl).symm (fx_nfA b0 _ _) ly_1 (by decide) (fun h => by cases h) ?_
  show AW X b0 D false 1 5 _ 3 (up (nw M 2) 1 0 2) 11 [some (.inr 1)] []
  refine A_ald0 hC d_Sc_init_11 ?_
  refine A_bipush hC d_Sc_init_12 (by decide) (by decide) ?_
  refine A_newa (N := 20) hC d_Sc_init_14 za_int rfl (Or.inl ⟨rfl, rfl, rfl⟩) ly_3 (by decide) (by decide) rfl (by decide) (by decide) ?_
  show AW X b0 D false 2 25 _ 4 (nw (up (nw M 2) 1 0 2) 3) 16 [some (.inr 1)] [.inr 3, .inr 1]
  refine A_put (c := 1) (x := 3) (k := 1) hC d_Sc_init_16 fP_Sc_15 (fun _ => ⟨hname, fun Cn T h => by cases h; rfl⟩) (by decide) (fx_isR 1 1 _ rfl).symm (fx_nfA b0 _ _) ly_1 (by decide) (fun h => by cases h) ?_
  show AW X b0 D false 2 25 _ 4 (up (nw (up (nw M 2) 1 0 2) 3) 1 1 3) 19 [some (.inr 1)] []
  refine A_ald0 hC d_Sc_init_19 ?_
  refine A_bipush hC d_Sc_init_20 (by decide) (by decide) ?_
  refine A_newa (N := 20) hC d_Sc_init_22 za_int rfl (Or.inl ⟨rfl, rfl, rfl⟩) ly_4 (by decide) (by decide) rfl (by decide) (by decide) ?_
  show AW X b0 D false 3 45 _ 5 (nw (up (nw (up (nw M 2) 1 0 2) 3) 1 1 3) 4) 24 [some (.inr 1)] [.inr 4, .inr 1]
  refine A_put (c := 1) (x := 4) (k := 2) hC d_Sc_init_24 fP_Sc_18 (fun _ => ⟨hname, fun Cn T h => by cases h; rfl⟩) (by decide) (fx_isR 1 2 _ rfl).symm (fx_nfA b0 _ _) ly_1 (by decide) (fun h => by cases h) ?_
  show AW X b0 D false 3 45 _ 5 (up (nw (up (nw (up (nw M 2) 1 0 2) 3) 1 1 3) 4) 1 2 4) 27 [some (.inr 1)] []
  refine A_ald0 hC d_Sc_init_27 ?_
  refine A_bipush hC d_Sc_init_28 (by decide) (by decide) ?_
  refine A_newa (N := 20) hC d_Sc_init_30 za_bool rfl (Or.inr ⟨rfl, rfl, rfl⟩) ly_5 (by decide) (by decide) rfl (by decide) (by decide) ?_
  show AW X b0 D false 4 65 _ 6 (nw (up (nw (up (nw (up (nw M 2) 1 0 2) 3) 1 1 3) 4) 1 2 4) 5) 32 [some (.inr 1)] [.inr 5, .inr 1]
  refine A_put (c := 1) (x := 5) (k := 3) hC d_Sc_init_32 fP_Sc_21 (fun _ => ⟨hname, fun Cn T h => by cases h; rfl⟩) (by decide) (fx_isR 1 3 _ rfl).symm (fx_nfA b0 _ _) ly_1 (by decide) (fun h => by cases h) ?_
  show AW X b0 D false 4 65 _ 6 (up (nw (up (nw (up (nw (up (nw M 2) 1 0 2) 3) 1 1 3) 4) 1 2 4) 5) 1 3 5) 35 [some (.inr 1)] []
  refine A_vret hC d_Sc_init_35 rfl (by decide) (by decide) ?_
  exact ⟨rfl, rfl, rfl⟩
def roM (M : Mem) : Mem := up (nw (up (nw (up (nw (up (nw M 7) 6 0 7) 8) 6 1 8) 9) 6 2 9) 10) 6 3 10
set_option maxHeartbeats 4000000 in
theorem k_Ro_init (l : Launch) (M : Mem) : AMet l m_Ro_init false 2 4 300 [.inr 6] 7 M (fun r n' M' => r = none ∧ n' = 11 ∧ M' = roM M) := by
  refine AM_intro (by decide) (Nat.le_of_ble_eq_true rfl) (fun X b0 D hC hname => ?_)
  show AW X b0 D false 0 0 _ 7 M 0 [some (.inr 6)] []
  refine A_ald0 hC d_Ro_init_0 ?_
  refine A_objInit hC d_Ro_init_1 lk_Ro_3 zo_inst zo_code (by decide) (by decide) (Nat.le_of_ble_eq_true rfl) rfl ?_
  show AW X b0 D false 0 0 _ 7 M 4 [some (.inr 6)] []
  refine A_ald0 hC d_Ro_init_4 ?_
  refine A_bipush hC d_Ro_init_5 (by decide) (by decide) ?_
  refine A_newa (N := 12) hC d_Ro_init_7 za_int rfl (Or.inl ⟨rfl, rfl, rfl⟩) ly_7 (by decide) (by decide) rfl (by decide) (by decide) ?_
  show AW X b0 D false 1 12 _ 8 (nw M 7) 9 [some (.inr 6)] [.inr 7, .inr 6]
  refine A_put (c := 6) (x := 7) (k := 0) hC d_Ro_init_9 fP_Ro_9 (fun _ => ⟨hname, fun Cn T h => by cases h; rfl⟩) (by decide) (fx_isR 2 0 _ rfl).symm (fx_nfA b0 _ _) ly_6 (by decide) (fun h => by cases h) ?_
  show AW X b0 D false 1 12 _ 8 (up (nw M 7) 6 0 7) 12 [some (.inr 6)] []
  refine A_ald0 hC d_Ro_init_12 ?_
  refine A_bipush hC d_Ro_init_13 (by decide) (by decide) ?_
  refine A_newa (N := 48) hC d_Ro_init_15 za_int rfl (Or.inl ⟨rfl, rfl, rfl⟩) ly_8 (by decide) (by decide) rfl (by decide) (by decide) ?_
  show AW X b0 D false 2 60 _ 9 (nw (up (nw M 7) 6 0 7) 8) 17 [some (.inr 6)] [.inr 8, .inr 6]
  refine A_put (c := 6) (x := 8) (k := 1) hC d_Ro_init_17 fP_Ro_15 (fun _ => ⟨hname, fun Cn T h => by cases h; rfl⟩) (by decide) (fx_isR 2 1 _ rfl).symm (fx_nfA b0 _ _) ly_6 (by decide) (fun h => by cases h) ?_
  show AW X b0 D false 2 60 _ 9 (up (nw (up (nw M 7) 6 0 7) 8) 6 1 8) 20 [some (.inr 6)] []
  refine A_ald0 hC d_Ro_init_20 ?_
  refine A_bipush hC d_Ro_init_21 (by decide) (by decide) ?_
  refine A_newa (N := 48) hC d_Ro_init_23 za_int rfl (Or.inl ⟨rfl, rfl, rfl⟩) ly_9 (by decide) (by decide) rfl (by decide) (by decide) ?_
  show AW X b0 D false 3 108 _ 10 (nw (up (nw (up (nw M 7) 6 0 7) 8) 6 1 8) 9) 25 [some (.inr 6)] [.inr 9, .inr 6]
  refine A_put (c := 6) (x := 9) (k := 2) hC d_Ro_init_25 fP_Ro_18 (fun _ => ⟨hname, fun Cn T h => by cases h; rfl⟩) (by decide) (fx_isR 2 2 _ rfl).symm (fx_nfA b0 _ _) ly_6 (by decide) (fun h => by cases h) ?_
  show AW X b0 D false 3 108 _ 10 (up (nw (up (nw (up (nw M 7) 6 0 7) 8) 6 1 8) 9) 6 2 9) 28 [some (.inr 6)] []
  refine A_ald0 hC d_Ro_init_28 ?_
  refine A_sipush hC d_Ro_init_29 (by decide) (by decide) ?_
  refine A_newa (N := 192) hC d_Ro_init_32 za_int rfl (Or.inl ⟨rfl, rfl, rfl⟩) ly_10 (by decide) (by decide) rfl (by decide) (by decide) ?_
  show AW X b0 D false 4 300 _ 11 (nw (up (nw (up (nw (up (nw M 7) 6 0 7) 8) 6 1 8) 9) 6 2 9) 10) 34 [some (.inr 6)] [.inr 10, .inr 6]
  refine A_put (c := 6) (x := 10) (k := 3) hC d_Ro_init_34 fP_Ro_21 (fun _ => ⟨hname, fun Cn T h => by cases h; rfl⟩) (by decide) (fx_isR 2 3 _ rfl).symm (fx_nfA b0 _ _) ly_6 (by decide) (fun h => by cases h) ?_
  show AW X b0 D false 4 300 _ 11 (up (nw (up (nw (up (nw (up (nw M 7) 6 0 7) 8) 6 1 8) 9) 6 2 9) 10) 6 3 10) 37 [some (.inr 6)] []
  refine A_vret hC d_Ro_init_37 rfl (by decide) (by decide) ?_
  exact ⟨rfl, rfl, rfl⟩
def teM (M : Mem) : Mem := up (nw (up (nw (up (nw (up (nw M 12) 11 0 12) 13) 11 1 13) 14) 11 2 14) 15) 11 3 15
set_option maxHeartbeats 4000000 in
theorem k_Te_init (l : Launch) (M : Mem) : AMet l m_Te_init false 2 4 196 [.inr 11] 12 M (fun r n' M' => r = none ∧ n' = 16 ∧ M' = teM M) := by
  refine AM_intro (by decide) (Nat.le_of_ble_eq_true rfl) (fun X b0 D hC hname => ?_)
  show AW X b0 D false 0 0 _ 12 M 0 [some (.inr 11)] []
  refine A_ald0 hC d_Te_init_0 ?_
  refine A_objInit hC d_Te_init_1 lk_Te_3 zo_inst zo_code (by decide) (by decide) (Nat.le_of_ble_eq_true rfl) rfl ?_
  show AW X b0 D false 0 0 _ 12 M 4 [some (.inr 11)] []
  refine A_ald0 hC d_Te_init_4 ?_
  refine A_iconst hC d_Te_init_5 (by decide) ?_
  refine A_newa (N := 4) hC d_Te_init_6 za_int rfl (Or.inl ⟨rfl, rfl, rfl⟩) ly_12 (by decide) (by decide) rfl (by decide) (by decide) ?_
  show AW X b0 D false 1 4 _ 13 (nw M 12) 8 [some (.inr 11)] [.inr 12, .inr 11]
  refine A_put (c := 11) (x := 12) (k := 0) hC d_Te_init_8 fP_Te_9 (fun _ => ⟨hname, fun Cn T h => by cases h; rfl⟩) (by decide) (fx_isR 3 0 _ rfl).symm (fx_nfA b0 _ _) ly_11 (by decide) (fun h => by cases h) ?_
  show AW X b0 D false 1 4 _ 13 (up (nw M 12) 11 0 12) 11 [some (.inr 11)] []
  refine A_ald0 hC d_Te_init_11 ?_
  refine A_bipush hC d_Te_init_12 (by decide) (by decide) ?_
  refine A_newa (N := 64) hC d_Te_init_14 za_int rfl (Or.inl ⟨rfl, rfl, rfl⟩) ly_13 (by decide) (by decide) rfl (by decide) (by decide) ?_
  show AW X b0 D false 2 68 _ 14 (nw (up (nw M 12) 11 0 12) 13) 16 [some (.inr 11)] [.inr 13, .inr 11]
  refine A_put (c := 11) (x := 13) (k := 1) hC d_Te_init_16 fP_Te_15 (fun _ => ⟨hname, fun Cn T h => by cases h; rfl⟩) (by decide) (fx_isR 3 1 _ rfl).symm (fx_nfA b0 _ _) ly_11 (by decide) (fun h => by cases h) ?_
  show AW X b0 D false 2 68 _ 14 (up (nw (up (nw M 12) 11 0 12) 13) 11 1 13) 19 [some (.inr 11)] []
  refine A_ald0 hC d_Te_init_19 ?_
  refine A_bipush hC d_Te_init_20 (by decide) (by decide) ?_
  refine A_newa (N := 64) hC d_Te_init_22 za_int rfl (Or.inl ⟨rfl, rfl, rfl⟩) ly_14 (by decide) (by decide) rfl (by decide) (by decide) ?_
  show AW X b0 D false 3 132 _ 15 (nw (up (nw (up (nw M 12) 11 0 12) 13) 11 1 13) 14) 24 [some (.inr 11)] [.inr 14, .inr 11]
  refine A_put (c := 11) (x := 14) (k := 2) hC d_Te_init_24 fP_Te_18 (fun _ => ⟨hname, fun Cn T h => by cases h; rfl⟩) (by decide) (fx_isR 3 2 _ rfl).symm (fx_nfA b0 _ _) ly_11 (by decide) (fun h => by cases h) ?_
  show AW X b0 D false 3 132 _ 15 (up (nw (up (nw (up (nw M 12) 11 0 12) 13) 11 1 13) 14) 11 2 14) 27 [some (.inr 11)] []
  refine A_ald0 hC d_Te_init_27 ?_
  refine A_bipush hC d_Te_init_28 (by decide) (by decide) ?_
  refine A_newa (N := 64) hC d_Te_init_30 za_int rfl (Or.inl ⟨rfl, rfl, rfl⟩) ly_15 (by decide) (by decide) rfl (by decide) (by decide) ?_
  show AW X b0 D false 4 196 _ 16 (nw (up (nw (up (nw (up (nw M 12) 11 0 12) 13) 11 1 13) 14) 11 2 14) 15) 32 [some (.inr 11)] [.inr 15, .inr 11]
  refine A_put (c := 11) (x := 15) (k := 3) hC d_Te_init_32 fP_Te_21 (fun _ => ⟨hname, fun Cn T h => by cases h; rfl⟩) (by decide) (fx_isR 3 3 _ rfl).symm (fx_nfA b0 _ _) ly_11 (by decide) (fun h => by cases h) ?_
  show AW X b0 D false 4 196 _ 16 (up (nw (up (nw (up (nw (up (nw M 12) 11 0 12) 13) 11 1 13) 14) 11 2 14) 15) 11 3 15) 35 [some (.inr 11)] []
  refine A_vret hC d_Te_init_35 rfl (by decide) (by decide) ?_
  exact ⟨rfl, rfl, rfl⟩
def paM (M : Mem) : Mem := up (nw (up (nw (up (nw M 84) 83 0 84) 85) 83 1 85) 86) 83 2 86
set_option maxHeartbeats 4000000 in
theorem k_Pa_init (l : Launch) (M : Mem) : AMet l m_Pa_init false 2 3 1646 [.inr 83] 84 M (fun r n' M' => r = none ∧ n' = 87 ∧ M' = paM M) := by
  refine AM_intro (by decide) (Nat.le_of_ble_eq_true rfl) (fun X b0 D hC hname => ?_)
  show AW X b0 D false 0 0 _ 84 M 0 [some (.inr 83)] []
  refine A_ald0 hC d_Pa_init_0 ?_
  refine A_objInit hC d_Pa_init_1 lk_Pa_3 zo_inst zo_code (by decide) (by decide) (Nat.le_of_ble_eq_true rfl) rfl ?_
  show AW X b0 D false 0 0 _ 84 M 4 [some (.inr 83)] []
  refine A_ald0 hC d_Pa_init_4 ?_
  refine A_bipush hC d_Pa_init_5 (by decide) (by decide) ?_
  refine A_newa (N := 26) hC d_Pa_init_7 za_int rfl (Or.inl ⟨rfl, rfl, rfl⟩) ly_84 (by decide) (by decide) rfl (by decide) (by decide) ?_
  show AW X b0 D false 1 26 _ 85 (nw M 84) 9 [some (.inr 83)] [.inr 84, .inr 83]
  refine A_put (c := 83) (x := 84) (k := 0) hC d_Pa_init_9 fP_Pa_9 (fun _ => ⟨hname, fun Cn T h => by cases h; rfl⟩) (by decide) (fx_isR 7 0 _ rfl).symm (fx_nfA b0 _ _) ly_83 (by decide) (fun h => by cases h) ?_
  show AW X b0 D false 1 26 _ 85 (up (nw M 84) 83 0 84) 12 [some (.inr 83)] []
  refine A_ald0 hC d_Pa_init_12 ?_
  refine A_bipush hC d_Pa_init_13 (by decide) (by decide) ?_
  refine A_newa (N := 60) hC d_Pa_init_15 za_int rfl (Or.inl ⟨rfl, rfl, rfl⟩) ly_85 (by decide) (by decide) rfl (by decide) (by decide) ?_
  show AW X b0 D false 2 86 _ 86 (nw (up (nw M 84) 83 0 84) 85) 17 [some (.inr 83)] [.inr 85, .inr 83]
  refine A_put (c := 83) (x := 85) (k := 1) hC d_Pa_init_17 fP_Pa_15 (fun _ => ⟨hname, fun Cn T h => by cases h; rfl⟩) (by decide) (fx_isR 7 1 _ rfl).symm (fx_nfA b0 _ _) ly_83 (by decide) (fun h => by cases h) ?_
  show AW X b0 D false 2 86 _ 86 (up (nw (up (nw M 84) 83 0 84) 85) 83 1 85) 20 [some (.inr 83)] []
  refine A_ald0 hC d_Pa_init_20 ?_
  refine A_sipush hC d_Pa_init_21 (by decide) (by decide) ?_
  refine A_newa (N := 1560) hC d_Pa_init_24 za_int rfl (Or.inl ⟨rfl, rfl, rfl⟩) ly_86 (by decide) (by decide) rfl (by decide) (by decide) ?_
  show AW X b0 D false 3 1646 _ 87 (nw (up (nw (up (nw M 84) 83 0 84) 85) 83 1 85) 86) 26 [some (.inr 83)] [.inr 86, .inr 83]
  refine A_put (c := 83) (x := 86) (k := 2) hC d_Pa_init_26 fP_Pa_18 (fun _ => ⟨hname, fun Cn T h => by cases h; rfl⟩) (by decide) (fx_isR 7 2 _ rfl).symm (fx_nfA b0 _ _) ly_83 (by decide) (fun h => by cases h) ?_
  show AW X b0 D false 3 1646 _ 87 (up (nw (up (nw (up (nw M 84) 83 0 84) 85) 83 1 85) 86) 83 2 86) 29 [some (.inr 83)] []
  refine A_vret hC d_Pa_init_29 rfl (by decide) (by decide) ?_
  exact ⟨rfl, rfl, rfl⟩
def moM (M : Mem) : Mem := up (nw (up (nw (up (nw (up (nw (up (nw (up (nw (up (nw (up (nw (up (nw (up (nw (up (nw (up (nw (up (nw (up (nw (up (nw (up (nw (up (nw (up (nw (up (up (nw (up (nw (up (nw (up (nw (up (nw (up (nw (up (nw (up (nw (up (nw (up (nw M 89) 88 1 89) 90) 88 2 90) 91) 88 4 91) 92) 88 5 92) 93) 88 6 93) 94) 88 7 94) 95) 88 8 95) 96) 88 9 96) 97) 88 10 97) 98) 88 11 98) 88 12 (-1)) 99) 88 14 99) 100) 88 15 100) 101) 88 16 101) 102) 88 18 102) 103) 88 19 103) 104) 88 20 104) 105) 88 21 105) 106) 88 22 106) 107) 88 23 107) 108) 88 24 108) 109) 88 25 109) 110) 88 26 110) 111) 88 27 111) 112) 88 28 112) 113) 88 29 113) 114) 88 32 114) 115) 88 34 115) 116) 88 35 116
set_option maxHeartbeats 4000000 in
theorem k_Mo_init (l : Launch) (M : Mem) : AMet l m_Mo_init false 2 28 13622 [.inr 88] 89 M (fun r n' M' => r = none ∧ n' = 117 ∧ M' = moM M) := by
  refine AM_intro (by decide) (Nat.le_of_ble_eq_true rfl) (fun X b0 D hC hname => ?_)
  show AW X b0 D false 0 0 _ 89 M 0 [some (.inr 88)] []
  refine A_ald0 hC d_Mo_init_0 ?_
  refine A_objInit hC d_Mo_init_1 lk_Mo_1 zo_inst zo_code (by decide) (by decide) (Nat.le_of_ble_eq_true rfl) rfl ?_
  show AW X b0 D false 0 0 _ 89 M 4 [some (.inr 88)] []
  refine A_ald0 hC d_Mo_init_4 ?_
  refine A_iconst hC d_Mo_init_5 (by decide) ?_
  refine A_newa (N := 5) hC d_Mo_init_6 za_int rfl (Or.inl ⟨rfl, rfl, rfl⟩) ly_89 (by decide) (by decide) rfl (by decide) (by decide) ?_
  show AW X b0 D false 1 5 _ 90 (nw M 89) 8 [some (.inr 88)] [.inr 89, .inr 88]
  refine A_put (c := 88) (x := 89) (k := 1) hC d_Mo_init_8 fP_Mo_7 (fun _ => ⟨hname, fun Cn T h => by cases h; rfl⟩) (by decide) (fx_isR 9 1 _ rfl).symm (fx_nfA b0 _ _) ly_88 (by decide) (fun h => by cases h) ?_
  show AW X b0 D false 1 5 _ 90 (up (nw M 89) 88 1 89) 11 [some (.inr 88)] []
  refine A_ald0 hC d_Mo_init_11 ?_
  refine A_bipush hC d_Mo_init_12 (by decide) (by decide) ?_
  refine A_newa (N := 60) hC d_Mo_init_14 za_int rfl (Or.inl ⟨rfl, rfl, rfl⟩) ly_90 (by decide) (by decide) rfl (by decide) (by decide) ?_
  show AW X b0 D false 2 65 _ 91 (nw (up (nw M 89) 88 1 89) 90) 16 [some (.inr 88)] [.inr 90, .inr 88]
  refine A_put (c := 88) (x := 90) (k := 2) hC d_Mo_init_16 fP_Mo_13 (fun _ => ⟨hname, fun Cn T h => by cases h; rfl⟩) (by decide) (fx_isR 9 2 _ rfl).symm (fx_nfA b0 _ _) ly_88 (by decide) (fun h => by cases h) ?_
  show AW X b0 D false 2 65 _ 91 (up (nw (up (nw M 89) 88 1 89) 90) 88 2 90) 19 [some (.inr 88)] []
  refine A_ald0 hC d_Mo_init_19 ?_
  refine A_bipush hC d_Mo_init_20 (by decide) (by decide) ?_
  refine A_newa (N := 13) hC d_Mo_init_22 za_int rfl (Or.inl ⟨rfl, rfl, rfl⟩) ly_91 (by decide) (by decide) rfl (by decide) (by decide) ?_
  show AW X b0 D false 3 78 _ 92 (nw (up (nw (up (nw M 89) 88 1 89) 90) 88 2 90) 91) 24 [some (.inr 88)] [.inr 91, .inr 88]
  refine A_put (c := 88) (x := 91) (k := 4) hC d_Mo_init_24 fP_Mo_16 (fun _ => ⟨hname, fun Cn T h => by cases h; rfl⟩) (by decide) (fx_isR 9 4 _ rfl).symm (fx_nfA b0 _ _) ly_88 (by decide) (fun h => by cases h) ?_
  show AW X b0 D false 3 78 _ 92 (up (nw (up (nw (up (nw M 89) 88 1 89) 90) 88 2 90) 91) 88 4 91) 27 [some (.inr 88)] []
  refine A_ald0 hC d_Mo_init_27 ?_
  refine A_bipush hC d_Mo_init_28 (by decide) (by decide) ?_
  refine A_newa (N := 52) hC d_Mo_init_30 za_int rfl (Or.inl ⟨rfl, rfl, rfl⟩) ly_92 (by decide) (by decide) rfl (by decide) (by decide) ?_
  show AW X b0 D false 4 130 _ 93 (nw (up (nw (up (nw (up (nw M 89) 88 1 89) 90) 88 2 90) 91) 88 4 91) 92) 32 [some (.inr 88)] [.inr 92, .inr 88]
  refine A_put (c := 88) (x := 92) (k := 5) hC d_Mo_init_32 fP_Mo_19 (fun _ => ⟨hname, fun Cn T h => by cases h; rfl⟩) (by decide) (fx_isR 9 5 _ rfl).symm (fx_nfA b0 _ _) ly_88 (by decide) (fun h => by cases h) ?_
  show AW X b0 D false 4 130 _ 93 (up (nw (up (nw (up (nw (up (nw M 89) 88 1 89) 90) 88 2 90) 91) 88 4 91) 92) 88 5 92) 35 [some (.inr 88)] []
  refine A_ald0 hC d_Mo_init_35 ?_
  refine A_sipush hC d_Mo_init_36 (by decide) (by decide) ?_
  refine A_newa (N := 208) hC d_Mo_init_39 za_int rfl (Or.inl ⟨rfl, rfl, rfl⟩) ly_93 (by decide) (by decide) rfl (by decide) (by decide) ?_
  show AW X b0 D false 5 338 _ 94 (nw (up (nw (up (nw (up (nw (up (nw M 89) 88 1 89) 90) 88 2 90) 91) 88 4 91) 92) 88 5 92) 93) 41 [some (.inr 88)] [.inr 93, .inr 88]
  refine A_put (c := 88) (x := 93) (k := 6) hC d_Mo_init_41 fP_Mo_22 (fun _ => ⟨hname, fun Cn T h => by cases h; rfl⟩) (by decide) (fx_isR 9 6 _ rfl).symm (fx_nfA b0 _ _) ly_88 (by decide) (fun h => by cases h) ?_
  show AW X b0 D false 5 338 _ 94 (up (nw (up (nw (up (nw (up (nw (up (nw M 89) 88 1 89) 90) 88 2 90) 91) 88 4 91) 92) 88 5 92) 93) 88 6 93) 44 [some (.inr 88)] []
  refine A_ald0 hC d_Mo_init_44 ?_
  refine A_iconst hC d_Mo_init_45 (by decide) ?_
  refine A_newa (N := 4) hC d_Mo_init_46 za_int rfl (Or.inl ⟨rfl, rfl, rfl⟩) ly_94 (by decide) (by decide) rfl (by decide) (by decide) ?_
  show AW X b0 D false 6 342 _ 95 (nw (up (nw (up (nw (up (nw (up (nw (up (nw M 89) 88 1 89) 90) 88 2 90) 91) 88 4 91) 92) 88 5 92) 93) 88 6 93) 94) 48 [some (.inr 88)] [.inr 94, .inr 88]
  refine A_put (c := 88) (x := 94) (k := 7) hC d_Mo_init_48 fP_Mo_25 (fun _ => ⟨hname, fun Cn T h => by cases h; rfl⟩) (by decide) (fx_isR 9 7 _ rfl).symm (fx_nfA b0 _ _) ly_88 (by decide) (fun h => by cases h) ?_
  show AW X b0 D false 6 342 _ 95 (up (nw (up (nw (up (nw (up (nw (up (nw (up (nw M 89) 88 1 89) 90) 88 2 90) 91) 88 4 91) 92) 88 5 92) 93) 88 6 93) 94) 88 7 94) 51 [some (.inr 88)] []
  refine A_ald0 hC d_Mo_init_51 ?_
  refine A_iconst hC d_Mo_init_52 (by decide) ?_
  refine A_newa (N := 4) hC d_Mo_init_53 za_int rfl (Or.inl ⟨rfl, rfl, rfl⟩) ly_95 (by decide) (by decide) rfl (by decide) (by decide) ?_
  show AW X b0 D false 7 346 _ 96 (nw (up (nw (up (nw (up (nw (up (nw (up (nw (up (nw M 89) 88 1 89) 90) 88 2 90) 91) 88 4 91) 92) 88 5 92) 93) 88 6 93) 94) 88 7 94) 95) 55 [some (.inr 88)] [.inr 95, .inr 88]
  refine A_put (c := 88) (x := 95) (k := 8) hC d_Mo_init_55 fP_Mo_28 (fun _ => ⟨hname, fun Cn T h => by cases h; rfl⟩) (by decide) (fx_isR 9 8 _ rfl).symm (fx_nfA b0 _ _) ly_88 (by decide) (fun h => by cases h) ?_
  show AW X b0 D false 7 346 _ 96 (up (nw (up (nw (up (nw (up (nw (up (nw (up (nw (up (nw M 89) 88 1 89) 90) 88 2 90) 91) 88 4 91) 92) 88 5 92) 93) 88 6 93) 94) 88 7 94) 95) 88 8 95) 58 [some (.inr 88)] []
  refine A_ald0 hC d_Mo_init_58 ?_
  refine A_bipush hC d_Mo_init_59 (by decide) (by decide) ?_
  refine A_newa (N := 64) hC d_Mo_init_61 za_int rfl (Or.inl ⟨rfl, rfl, rfl⟩) ly_96 (by decide) (by decide) rfl (by decide) (by decide) ?_
  show AW X b0 D false 8 410 _ 97 (nw (up (nw (up (nw (up (nw (up (nw (up (nw (up (nw (up (nw M 89) 88 1 89) 90) 88 2 90) 91) 88 4 91) 92) 88 5 92) 93) 88 6 93) 94) 88 7 94) 95) 88 8 95) 96) 63 [some (.inr 88)] [.inr 96, .inr 88]
  refine A_put (c := 88) (x := 96) (k := 9) hC d_Mo_init_63 fP_Mo_31 (fun _ => ⟨hname, fun Cn T h => by cases h; rfl⟩) (by decide) (fx_isR 9 9 _ rfl).symm (fx_nfA b0 _ _) ly_88 (by decide) (fun h => by cases h) ?_
  show AW X b0 D false 8 410 _ 97 (up (nw (up (nw (up (nw (up (nw (up (nw (up (nw (up (nw (up (nw M 89) 88 1 89) 90) 88 2 90) 91) 88 4 91) 92) 88 5 92) 93) 88 6 93) 94) 88 7 94) 95) 88 8 95) 96) 88 9 96) 66 [some (.inr 88)] []
  refine A_ald0 hC d_Mo_init_66 ?_
  refine A_bipush hC d_Mo_init_67 (by decide) (by decide) ?_
  refine A_newa (N := 64) hC d_Mo_init_69 za_int rfl (Or.inl ⟨rfl, rfl, rfl⟩) ly_97 (by decide) (by decide) rfl (by decide) (by decide) ?_
  show AW X b0 D false 9 474 _ 98 (nw (up (nw (up (nw (up (nw (up (nw (up (nw (up (nw (up (nw (up (nw M 89) 88 1 89) 90) 88 2 90) 91) 88 4 91) 92) 88 5 92) 93) 88 6 93) 94) 88 7 94) 95) 88 8 95) 96) 88 9 96) 97) 71 [some (.inr 88)] [.inr 97, .inr 88]
  refine A_put (c := 88) (x := 97) (k := 10) hC d_Mo_init_71 fP_Mo_34 (fun _ => ⟨hname, fun Cn T h => by cases h; rfl⟩) (by decide) (fx_isR 9 10 _ rfl).symm (fx_nfA b0 _ _) ly_88 (by decide) (fun h => by cases h) ?_
  show AW X b0 D false 9 474 _ 98 (up (nw (up (nw (up (nw (up (nw (up (nw (up (nw (up (nw (up (nw (up (nw M 89) 88 1 89) 90) 88 2 90) 91) 88 4 91) 92) 88 5 92) 93) 88 6 93) 94) 88 7 94) 95) 88 8 95) 96) 88 9 96) 97) 88 10 97) 74 [some (.inr 88)] []
  refine A_ald0 hC d_Mo_init_74 ?_
  refine A_bipush hC d_Mo_init_75 (by decide) (by decide) ?_
  refine A_newa (N := 64) hC d_Mo_init_77 za_int rfl (Or.inl ⟨rfl, rfl, rfl⟩) ly_98 (by decide) (by decide) rfl (by decide) (by decide) ?_
  show AW X b0 D false 10 538 _ 99 (nw (up (nw (up (nw (up (nw (up (nw (up (nw (up (nw (up (nw (up (nw (up (nw M 89) 88 1 89) 90) 88 2 90) 91) 88 4 91) 92) 88 5 92) 93) 88 6 93) 94) 88 7 94) 95) 88 8 95) 96) 88 9 96) 97) 88 10 97) 98) 79 [some (.inr 88)] [.inr 98, .inr 88]
  refine A_put (c := 88) (x := 98) (k := 11) hC d_Mo_init_79 fP_Mo_37 (fun _ => ⟨hname, fun Cn T h => by cases h; rfl⟩) (by decide) (fx_isR 9 11 _ rfl).symm (fx_nfA b0 _ _) ly_88 (by decide) (fun h => by cases h) ?_
  show AW X b0 D false 10 538 _ 99 (up (nw (up (nw (up (nw (up (nw (up (nw (up (nw (up (nw (up (nw (up (nw (up (nw M 89) 88 1 89) 90) 88 2 90) 91) 88 4 91) 92) 88 5 92) 93) 88 6 93) 94) 88 7 94) 95) 88 8 95) 96) 88 9 96) 97) 88 10 97) 98) 88 11 98) 82 [some (.inr 88)] []
  refine A_ald0 hC d_Mo_init_82 ?_
  refine A_iconst hC d_Mo_init_83 (by decide) ?_
  refine A_put (c := 88) (x := -1) (k := 12) hC d_Mo_init_84 fP_Mo_40 fx_ff (by decide) (fx_isI 9 12 _ rfl).symm (fx_nfI b0 _) ly_88 (by decide) (fun h => by cases h) ?_
  show AW X b0 D false 10 538 _ 99 (up (up (nw (up (nw (up (nw (up (nw (up (nw (up (nw (up (nw (up (nw (up (nw (up (nw M 89) 88 1 89) 90) 88 2 90) 91) 88 4 91) 92) 88 5 92) 93) 88 6 93) 94) 88 7 94) 95) 88 8 95) 96) 88 9 96) 97) 88 10 97) 98) 88 11 98) 88 12 (-1)) 87 [some (.inr 88)] []
  refine A_ald0 hC d_Mo_init_87 ?_
  refine A_bipush hC d_Mo_init_88 (by decide) (by decide) ?_
  refine A_newa (N := 70) hC d_Mo_init_90 za_int rfl (Or.inl ⟨rfl, rfl, rfl⟩) ly_99 (by decide) (by decide) rfl (by decide) (by decide) ?_
  show AW X b0 D false 11 608 _ 100 (nw (up (up (nw (up (nw (up (nw (up (nw (up (nw (up (nw (up (nw (up (nw (up (nw (up (nw M 89) 88 1 89) 90) 88 2 90) 91) 88 4 91) 92) 88 5 92) 93) 88 6 93) 94) 88 7 94) 95) 88 8 95) 96) 88 9 96) 97) 88 10 97) 98) 88 11 98) 88 12 (-1)) 99) 92 [some (.inr 88)] [.inr 99, .inr 88]
  refine A_put (c := 88) (x := 99) (k := 14) hC d_Mo_init_92 fP_Mo_44 (fun _ => ⟨hname, fun Cn T h => by cases h; rfl⟩) (by decide) (fx_isR 9 14 _ rfl).symm (fx_nfA b0 _ _) ly_88 (by decide) (fun h => by cases h) ?_
  show AW X b0 D false 11 608 _ 100 (up (nw (up (up (nw (up (nw (up (nw (up (nw (up (nw (up (nw (up (nw (up (nw (up (nw (up (nw M 89) 88 1 89) 90) 88 2 90) 91) 88 4 91) 92) 88 5 92) 93) 88 6 93) 94) 88 7 94) 95) 88 8 95) 96) 88 9 96) 97) 88 10 97) 98) 88 11 98) 88 12 (-1)) 99) 88 14 99) 95 [some (.inr 88)] []
  refine A_ald0 hC d_Mo_init_95 ?_
  refine A_bipush hC d_Mo_init_96 (by decide) (by decide) ?_
  refine A_newa (N := 70) hC d_Mo_init_98 za_int rfl (Or.inl ⟨rfl, rfl, rfl⟩) ly_100 (by decide) (by decide) rfl (by decide) (by decide) ?_
  show AW X b0 D false 12 678 _ 101 (nw (up (nw (up (up (nw (up (nw (up (nw (up (nw (up (nw (up (nw (up (nw (up (nw (up (nw (up (nw M 89) 88 1 89) 90) 88 2 90) 91) 88 4 91) 92) 88 5 92) 93) 88 6 93) 94) 88 7 94) 95) 88 8 95) 96) 88 9 96) 97) 88 10 97) 98) 88 11 98) 88 12 (-1)) 99) 88 14 99) 100) 100 [some (.inr 88)] [.inr 100, .inr 88]
  refine A_put (c := 88) (x := 100) (k := 15) hC d_Mo_init_100 fP_Mo_47 (fun _ => ⟨hname, fun Cn T h => by cases h; rfl⟩) (by decide) (fx_isR 9 15 _ rfl).symm (fx_nfA b0 _ _) ly_88 (by decide) (fun h => by cases h) ?_
  show AW X b0 D false 12 678 _ 101 (up (nw (up (nw (up (up (nw (up (nw (up (nw (up (nw (up (nw (up (nw (up (nw (up (nw (up (nw (up (nw M 89) 88 1 89) 90) 88 2 90) 91) 88 4 91) 92) 88 5 92) 93) 88 6 93) 94) 88 7 94) 95) 88 8 95) 96) 88 9 96) 97) 88 10 97) 98) 88 11 98) 88 12 (-1)) 99) 88 14 99) 100) 88 15 100) 103 [some (.inr 88)] []
  refine A_ald0 hC d_Mo_init_103 ?_
  refine A_iconst hC d_Mo_init_104 (by decide) ?_
  refine A_newa (N := 4) hC d_Mo_init_105 za_bool rfl (Or.inr ⟨rfl, rfl, rfl⟩) ly_101 (by decide) (by decide) rfl (by decide) (by decide) ?_
  show AW X b0 D false 13 682 _ 102 (nw (up (nw (up (nw (up (up (nw (up (nw (up (nw (up (nw (up (nw (up (nw (up (nw (up (nw (up (nw (up (nw M 89) 88 1 89) 90) 88 2 90) 91) 88 4 91) 92) 88 5 92) 93) 88 6 93) 94) 88 7 94) 95) 88 8 95) 96) 88 9 96) 97) 88 10 97) 98) 88 11 98) 88 12 (-1)) 99) 88 14 99) 100) 88 15 100) 101) 107 [some (.inr 88)] [.inr 101, .inr 88]
  refine A_put (c := 88) (x := 101) (k := 16) hC d_Mo_init_107 fP_Mo_50 (fun _ => ⟨hname, fun Cn T h => by cases h; rfl⟩) (by decide) (fx_isR 9 16 _ rfl).symm (fx_nfA b0 _ _) ly_88 (by decide) (fun h => by cases h) ?_
  show AW X b0 D false 13 682 _ 102 (up (nw (up (nw (up (nw (up (up (nw (up (nw (up (nw (up (nw (up (nw (up (nw (up (nw (up (nw (up (nw (up (nw M 89) 88 1 89) 90) 88 2 90) 91) 88 4 91) 92) 88 5 92) 93) 88 6 93) 94) 88 7 94) 95) 88 8 95) 96) 88 9 96) 97) 88 10 97) 98) 88 11 98) 88 12 (-1)) 99) 88 14 99) 100) 88 15 100) 101) 88 16 101) 110 [some (.inr 88)] []
  refine A_ald0 hC d_Mo_init_110 ?_
  refine A_bipush hC d_Mo_init_111 (by decide) (by decide) ?_
  refine A_newa (N := 40) hC d_Mo_init_113 za_int rfl (Or.inl ⟨rfl, rfl, rfl⟩) ly_102 (by decide) (by decide) rfl (by decide) (by decide) ?_
  show AW X b0 D false 14 722 _ 103 (nw (up (nw (up (nw (up (nw (up (up (nw (up (nw (up (nw (up (nw (up (nw (up (nw (up (nw (up (nw (up (nw (up (nw M 89) 88 1 89) 90) 88 2 90) 91) 88 4 91) 92) 88 5 92) 93) 88 6 93) 94) 88 7 94) 95) 88 8 95) 96) 88 9 96) 97) 88 10 97) 98) 88 11 98) 88 12 (-1)) 99) 88 14 99) 100) 88 15 100) 101) 88 16 101) 102) 115 [some (.inr 88)] [.inr 102, .inr 88]
  refine A_put (c := 88) (x := 102) (k := 18) hC d_Mo_init_115 fP_Mo_54 (fun _ => ⟨hname, fun Cn T h => by cases h; rfl⟩) (by decide) (fx_isR 9 18 _ rfl).symm (fx_nfA b0 _ _) ly_88 (by decide) (fun h => by cases h) ?_
  show AW X b0 D false 14 722 _ 103 (up (nw (up (nw (up (nw (up (nw (up (up (nw (up (nw (up (nw (up (nw (up (nw (up (nw (up (nw (up (nw (up (nw (up (nw M 89) 88 1 89) 90) 88 2 90) 91) 88 4 91) 92) 88 5 92) 93) 88 6 93) 94) 88 7 94) 95) 88 8 95) 96) 88 9 96) 97) 88 10 97) 98) 88 11 98) 88 12 (-1)) 99) 88 14 99) 100) 88 15 100) 101) 88 16 101) 102) 88 18 102) 118 [some (.inr 88)] []
  refine A_ald0 hC d_Mo_init_118 ?_
  refine A_bipush hC d_Mo_init_119 (by decide) (by decide) ?_
  refine A_newa (N := 40) hC d_Mo_init_121 za_int rfl (Or.inl ⟨rfl, rfl, rfl⟩) ly_103 (by decide) (by decide) rfl (by decide) (by decide) ?_
  show AW X b0 D false 15 762 _ 104 (nw (up (nw (up (nw (up (nw (up (nw (up (up (nw (up (nw (up (nw (up (nw (up (nw (up (nw (up (nw (up (nw (up (nw (up (nw M 89) 88 1 89) 90) 88 2 90) 91) 88 4 91) 92) 88 5 92) 93) 88 6 93) 94) 88 7 94) 95) 88 8 95) 96) 88 9 96) 97) 88 10 97) 98) 88 11 98) 88 12 (-1)) 99) 88 14 99) 100) 88 15 100) 101) 88 16 101) 102) 88 18 102) 103) 123 [some (.inr 88)] [.inr 103, .inr 88]
  refine A_put (c := 88) (x := 103) (k := 19) hC d_Mo_init_123 fP_Mo_57 (fun _ => ⟨hname, fun Cn T h => by cases h; rfl⟩) (by decide) (fx_isR 9 19 _ rfl).symm (fx_nfA b0 _ _) ly_88 (by decide) (fun h => by cases h) ?_
  show AW X b0 D false 15 762 _ 104 (up (nw (up (nw (up (nw (up (nw (up (nw (up (up (nw (up (nw (up (nw (up (nw (up (nw (up (nw (up (nw (up (nw (up (nw (up (nw M 89) 88 1 89) 90) 88 2 90) 91) 88 4 91) 92) 88 5 92) 93) 88 6 93) 94) 88 7 94) 95) 88 8 95) 96) 88 9 96) 97) 88 10 97) 98) 88 11 98) 88 12 (-1)) 99) 88 14 99) 100) 88 15 100) 101) 88 16 101) 102) 88 18 102) 103) 88 19 103) 126 [some (.inr 88)] []
  refine A_ald0 hC d_Mo_init_126 ?_
  refine A_sipush hC d_Mo_init_127 (by decide) (by decide) ?_
  refine A_newa (N := 400) hC d_Mo_init_130 za_int rfl (Or.inl ⟨rfl, rfl, rfl⟩) ly_104 (by decide) (by decide) rfl (by decide) (by decide) ?_
  show AW X b0 D false 16 1162 _ 105 (nw (up (nw (up (nw (up (nw (up (nw (up (nw (up (up (nw (up (nw (up (nw (up (nw (up (nw (up (nw (up (nw (up (nw (up (nw (up (nw M 89) 88 1 89) 90) 88 2 90) 91) 88 4 91) 92) 88 5 92) 93) 88 6 93) 94) 88 7 94) 95) 88 8 95) 96) 88 9 96) 97) 88 10 97) 98) 88 11 98) 88 12 (-1)) 99) 88 14 99) 100) 88 15 100) 101) 88 16 101) 102) 88 18 102) 103) 88 19 103) 104) 132 [some (.inr 88)] [.inr 104, .inr 88]
  refine A_put (c := 88) (x := 104) (k := 20) hC d_Mo_init_132 fP_Mo_60 (fun _ => ⟨hname, fun Cn T h => by cases h; rfl⟩) (by decide) (fx_isR 9 20 _ rfl).symm (fx_nfA b0 _ _) ly_88 (by decide) (fun h => by cases h) ?_
  show AW X b0 D false 16 1162 _ 105 (up (nw (up (nw (up (nw (up (nw (up (nw (up (nw (up (up (nw (up (nw (up (nw (up (nw (up (nw (up (nw (up (nw (up (nw (up (nw (up (nw M 89) 88 1 89) 90) 88 2 90) 91) 88 4 91) 92) 88 5 92) 93) 88 6 93) 94) 88 7 94) 95) 88 8 95) 96) 88 9 96) 97) 88 10 97) 98) 88 11 98) 88 12 (-1)) 99) 88 14 99) 100) 88 15 100) 101) 88 16 101) 102) 88 18 102) 103) 88 19 103) 104) 88 20 104) 135 [some (.inr 88)] []
  refine A_ald0 hC d_Mo_init_135 ?_
  refine A_sipush hC d_Mo_init_136 (by decide) (by decide) ?_
  refine A_newa (N := 400) hC d_Mo_init_139 za_int rfl (Or.inl ⟨rfl, rfl, rfl⟩) ly_105 (by decide) (by decide) rfl (by decide) (by decide) ?_
  show AW X b0 D false 17 1562 _ 106 (nw (up (nw (up (nw (up (nw (up (nw (up (nw (up (nw (up (up (nw (up (nw (up (nw (up (nw (up (nw (up (nw (up (nw (up (nw (up (nw (up (nw M 89) 88 1 89) 90) 88 2 90) 91) 88 4 91) 92) 88 5 92) 93) 88 6 93) 94) 88 7 94) 95) 88 8 95) 96) 88 9 96) 97) 88 10 97) 98) 88 11 98) 88 12 (-1)) 99) 88 14 99) 100) 88 15 100) 101) 88 16 101) 102) 88 18 102) 103) 88 19 103) 104) 88 20 104) 105) 141 [some (.inr 88)] [.inr 105, .inr 88]
  refine A_put (c := 88) (x := 105) (k := 21) hC d_Mo_init_141 fP_Mo_63 (fun _ => ⟨hname, fun Cn T h => by cases h; rfl⟩) (by decide) (fx_isR 9 21 _ rfl).symm (fx_nfA b0 _ _) ly_88 (by decide) (fun h => by cases h) ?_
  show AW X b0 D false 17 1562 _ 106 (up (nw (up (nw (up (nw (up (nw (up (nw (up (nw (up (nw (up (up (nw (up (nw (up (nw (up (nw (up (nw (up (nw (up (nw (up (nw (up (nw (up (nw M 89) 88 1 89) 90) 88 2 90) 91) 88 4 91) 92) 88 5 92) 93) 88 6 93) 94) 88 7 94) 95) 88 8 95) 96) 88 9 96) 97) 88 10 97) 98) 88 11 98) 88 12 (-1)) 99) 88 14 99) 100) 88 15 100) 101) 88 16 101) 102) 88 18 102) 103) 88 19 103) 104) 88 20 104) 105) 88 21 105) 144 [some (.inr 88)] []
  refine A_ald0 hC d_Mo_init_144 ?_
  refine A_sipush hC d_Mo_init_145 (by decide) (by decide) ?_
  refine A_newa (N := 400) hC d_Mo_init_148 za_int rfl (Or.inl ⟨rfl, rfl, rfl⟩) ly_106 (by decide) (by decide) rfl (by decide) (by decide) ?_
  show AW X b0 D false 18 1962 _ 107 (nw (up (nw (up (nw (up (nw (up (nw (up (nw (up (nw (up (nw (up (up (nw (up (nw (up (nw (up (nw (up (nw (up (nw (up (nw (up (nw (up (nw (up (nw M 89) 88 1 89) 90) 88 2 90) 91) 88 4 91) 92) 88 5 92) 93) 88 6 93) 94) 88 7 94) 95) 88 8 95) 96) 88 9 96) 97) 88 10 97) 98) 88 11 98) 88 12 (-1)) 99) 88 14 99) 100) 88 15 100) 101) 88 16 101) 102) 88 18 102) 103) 88 19 103) 104) 88 20 104) 105) 88 21 105) 106) 150 [some (.inr 88)] [.inr 106, .inr 88]
  refine A_put (c := 88) (x := 106) (k := 22) hC d_Mo_init_150 fP_Mo_66 (fun _ => ⟨hname, fun Cn T h => by cases h; rfl⟩) (by decide) (fx_isR 9 22 _ rfl).symm (fx_nfA b0 _ _) ly_88 (by decide) (fun h => by cases h) ?_
  show AW X b0 D false 18 1962 _ 107 (up (nw (up (nw (up (nw (up (nw (up (nw (up (nw (up (nw (up (nw (up (up (nw (up (nw (up (nw (up (nw (up (nw (up (nw (up (nw (up (nw (up (nw (up (nw M 89) 88 1 89) 90) 88 2 90) 91) 88 4 91) 92) 88 5 92) 93) 88 6 93) 94) 88 7 94) 95) 88 8 95) 96) 88 9 96) 97) 88 10 97) 98) 88 11 98) 88 12 (-1)) 99) 88 14 99) 100) 88 15 100) 101) 88 16 101) 102) 88 18 102) 103) 88 19 103) 104) 88 20 104) 105) 88 21 105) 106) 88 22 106) 153 [some (.inr 88)] []
  refine A_ald0 hC d_Mo_init_153 ?_
  refine A_bipush hC d_Mo_init_154 (by decide) (by decide) ?_
  refine A_newa (N := 40) hC d_Mo_init_156 za_int rfl (Or.inl ⟨rfl, rfl, rfl⟩) ly_107 (by decide) (by decide) rfl (by decide) (by decide) ?_
  show AW X b0 D false 19 2002 _ 108 (nw (up (nw (up (nw (up (nw (up (nw (up (nw (up (nw (up (nw (up (nw (up (up (nw (up (nw (up (nw (up (nw (up (nw (up (nw (up (nw (up (nw (up (nw (up (nw M 89) 88 1 89) 90) 88 2 90) 91) 88 4 91) 92) 88 5 92) 93) 88 6 93) 94) 88 7 94) 95) 88 8 95) 96) 88 9 96) 97) 88 10 97) 98) 88 11 98) 88 12 (-1)) 99) 88 14 99) 100) 88 15 100) 101) 88 16 101) 102) 88 18 102) 103) 88 19 103) 104) 88 20 104) 105) 88 21 105) 106) 88 22 106) 107) 158 [some (.inr 88)] [.inr 107, .inr 88]
  refine A_put (c := 88) (x := 107) (k := 23) hC d_Mo_init_158 fP_Mo_69 (fun _ => ⟨hname, fun Cn T h => by cases h; rfl⟩) (by decide) (fx_isR 9 23 _ rfl).symm (fx_nfA b0 _ _) ly_88 (by decide) (fun h => by cases h) ?_
  show AW X b0 D false 19 2002 _ 108 (up (nw (up (nw (up (nw (up (nw (up (nw (up (nw (up (nw (up (nw (up (nw (up (up (nw (up (nw (up (nw (up (nw (up (nw (up (nw (up (nw (up (nw (up (nw (up (nw M 89) 88 1 89) 90) 88 2 90) 91) 88 4 91) 92) 88 5 92) 93) 88 6 93) 94) 88 7 94) 95) 88 8 95) 96) 88 9 96) 97) 88 10 97) 98) 88 11 98) 88 12 (-1)) 99) 88 14 99) 100) 88 15 100) 101) 88 16 101) 102) 88 18 102) 103) 88 19 103) 104) 88 20 104) 105) 88 21 105) 106) 88 22 106) 107) 88 23 107) 161 [some (.inr 88)] []
  refine A_ald0 hC d_Mo_init_161 ?_
  refine A_sipush hC d_Mo_init_162 (by decide) (by decide) ?_
  refine A_newa (N := 2600) hC d_Mo_init_165 za_int rfl (Or.inl ⟨rfl, rfl, rfl⟩) ly_108 (by decide) (by decide) rfl (by decide) (by decide) ?_
  show AW X b0 D false 20 4602 _ 109 (nw (up (nw (up (nw (up (nw (up (nw (up (nw (up (nw (up (nw (up (nw (up (nw (up (up (nw (up (nw (up (nw (up (nw (up (nw (up (nw (up (nw (up (nw (up (nw (up (nw M 89) 88 1 89) 90) 88 2 90) 91) 88 4 91) 92) 88 5 92) 93) 88 6 93) 94) 88 7 94) 95) 88 8 95) 96) 88 9 96) 97) 88 10 97) 98) 88 11 98) 88 12 (-1)) 99) 88 14 99) 100) 88 15 100) 101) 88 16 101) 102) 88 18 102) 103) 88 19 103) 104) 88 20 104) 105) 88 21 105) 106) 88 22 106) 107) 88 23 107) 108) 167 [some (.inr 88)] [.inr 108, .inr 88]
  refine A_put (c := 88) (x := 108) (k := 24) hC d_Mo_init_167 fP_Mo_72 (fun _ => ⟨hname, fun Cn T h => by cases h; rfl⟩) (by decide) (fx_isR 9 24 _ rfl).symm (fx_nfA b0 _ _) ly_88 (by decide) (fun h => by cases h) ?_
  show AW X b0 D false 20 4602 _ 109 (up (nw (up (nw (up (nw (up (nw (up (nw (up (nw (up (nw (up (nw (up (nw (up (nw (up (up (nw (up (nw (up (nw (up (nw (up (nw (up (nw (up (nw (up (nw (up (nw (up (nw M 89) 88 1 89) 90) 88 2 90) 91) 88 4 91) 92) 88 5 92) 93) 88 6 93) 94) 88 7 94) 95) 88 8 95) 96) 88 9 96) 97) 88 10 97) 98) 88 11 98) 88 12 (-1)) 99) 88 14 99) 100) 88 15 100) 101) 88 16 101) 102) 88 18 102) 103) 88 19 103) 104) 88 20 104) 105) 88 21 105) 106) 88 22 106) 107) 88 23 107) 108) 88 24 108) 170 [some (.inr 88)] []
  refine A_ald0 hC d_Mo_init_170 ?_
  refine A_sipush hC d_Mo_init_171 (by decide) (by decide) ?_
  refine A_newa (N := 2600) hC d_Mo_init_174 za_int rfl (Or.inl ⟨rfl, rfl, rfl⟩) ly_109 (by decide) (by decide) rfl (by decide) (by decide) ?_
  show AW X b0 D false 21 7202 _ 110 (nw (up (nw (up (nw (up (nw (up (nw (up (nw (up (nw (up (nw (up (nw (up (nw (up (nw (up (up (nw (up (nw (up (nw (up (nw (up (nw (up (nw (up (nw (up (nw (up (nw (up (nw M 89) 88 1 89) 90) 88 2 90) 91) 88 4 91) 92) 88 5 92) 93) 88 6 93) 94) 88 7 94) 95) 88 8 95) 96) 88 9 96) 97) 88 10 97) 98) 88 11 98) 88 12 (-1)) 99) 88 14 99) 100) 88 15 100) 101) 88 16 101) 102) 88 18 102) 103) 88 19 103) 104) 88 20 104) 105) 88 21 105) 106) 88 22 106) 107) 88 23 107) 108) 88 24 108) 109) 176 [some (.inr 88)] [.inr 109, .inr 88]
  refine A_put (c := 88) (x := 109) (k := 25) hC d_Mo_init_176 fP_Mo_75 (fun _ => ⟨hname, fun Cn T h => by cases h; rfl⟩) (by decide) (fx_isR 9 25 _ rfl).symm (fx_nfA b0 _ _) ly_88 (by decide) (fun h => by cases h) ?_
  show AW X b0 D false 21 7202 _ 110 (up (nw (up (nw (up (nw (up (nw (up (nw (up (nw (up (nw (up (nw (up (nw (up (nw (up (nw (up (up (nw (up (nw (up (nw (up (nw (up (nw (up (nw (up (nw (up (nw (up (nw (up (nw M 89) 88 1 89) 90) 88 2 90) 91) 88 4 91) 92) 88 5 92) 93) 88 6 93) 94) 88 7 94) 95) 88 8 95) 96) 88 9 96) 97) 88 10 97) 98) 88 11 98) 88 12 (-1)) 99) 88 14 99) 100) 88 15 100) 101) 88 16 101) 102) 88 18 102) 103) 88 19 103) 104) 88 20 104) 105) 88 21 105) 106) 88 22 106) 107) 88 23 107) 108) 88 24 108) 109) 88 25 109) 179 [some (.inr 88)] []
  refine A_ald0 hC d_Mo_init_179 ?_
  refine A_bipush hC d_Mo_init_180 (by decide) (by decide) ?_
  refine A_newa (N := 40) hC d_Mo_init_182 za_int rfl (Or.inl ⟨rfl, rfl, rfl⟩) ly_110 (by decide) (by decide) rfl (by decide) (by decide) ?_
  show AW X b0 D false 22 7242 _ 111 (nw (up (nw (up (nw (up (nw (up (nw (up (nw (up (nw (up (nw (up (nw (up (nw (up (nw (up (nw (up (up (nw (up (nw (up (nw (up (nw (up (nw (up (nw (up (nw (up (nw (up (nw (up (nw M 89) 88 1 89) 90) 88 2 90) 91) 88 4 91) 92) 88 5 92) 93) 88 6 93) 94) 88 7 94) 95) 88 8 95) 96) 88 9 96) 97) 88 10 97) 98) 88 11 98) 88 12 (-1)) 99) 88 14 99) 100) 88 15 100) 101) 88 16 101) 102) 88 18 102) 103) 88 19 103) 104) 88 20 104) 105) 88 21 105) 106) 88 22 106) 107) 88 23 107) 108) 88 24 108) 109) 88 25 109) 110) 184 [some (.inr 88)] [.inr 110, .inr 88]
  refine A_put (c := 88) (x := 110) (k := 26) hC d_Mo_init_184 fP_Mo_78 (fun _ => ⟨hname, fun Cn T h => by cases h; rfl⟩) (by decide) (fx_isR 9 26 _ rfl).symm (fx_nfA b0 _ _) ly_88 (by decide) (fun h => by cases h) ?_
  show AW X b0 D false 22 7242 _ 111 (up (nw (up (nw (up (nw (up (nw (up (nw (up (nw (up (nw (up (nw (up (nw (up (nw (up (nw (up (nw (up (up (nw (up (nw (up (nw (up (nw (up (nw (up (nw (up (nw (up (nw (up (nw (up (nw M 89) 88 1 89) 90) 88 2 90) 91) 88 4 91) 92) 88 5 92) 93) 88 6 93) 94) 88 7 94) 95) 88 8 95) 96) 88 9 96) 97) 88 10 97) 98) 88 11 98) 88 12 (-1)) 99) 88 14 99) 100) 88 15 100) 101) 88 16 101) 102) 88 18 102) 103) 88 19 103) 104) 88 20 104) 105) 88 21 105) 106) 88 22 106) 107) 88 23 107) 108) 88 24 108) 109) 88 25 109) 110) 88 26 110) 187 [some (.inr 88)] []
  refine A_ald0 hC d_Mo_init_187 ?_
  refine A_bipush hC d_Mo_init_188 (by decide) (by decide) ?_
  refine A_newa (N := 40) hC d_Mo_init_190 za_int rfl (Or.inl ⟨rfl, rfl, rfl⟩) ly_111 (by decide) (by decide) rfl (by decide) (by decide) ?_
  show AW X b0 D false 23 7282 _ 112 (nw (up (nw (up (nw (up (nw (up (nw (up (nw (up (nw (up (nw (up (nw (up (nw (up (nw (up (nw (up (nw (up (up (nw (up (nw (up (nw (up (nw (up (nw (up (nw (up (nw (up (nw (up (nw (up (nw M 89) 88 1 89) 90) 88 2 90) 91) 88 4 91) 92) 88 5 92) 93) 88 6 93) 94) 88 7 94) 95) 88 8 95) 96) 88 9 96) 97) 88 10 97) 98) 88 11 98) 88 12 (-1)) 99) 88 14 99) 100) 88 15 100) 101) 88 16 101) 102) 88 18 102) 103) 88 19 103) 104) 88 20 104) 105) 88 21 105) 106) 88 22 106) 107) 88 23 107) 108) 88 24 108) 109) 88 25 109) 110) 88 26 110) 111) 192 [some (.inr 88)] [.inr 111, .inr 88]
  refine A_put (c := 88) (x := 111) (k := 27) hC d_Mo_init_192 fP_Mo_81 (fun _ => ⟨hname, fun Cn T h => by cases h; rfl⟩) (by decide) (fx_isR 9 27 _ rfl).symm (fx_nfA b0 _ _) ly_88 (by decide) (fun h => by cases h) ?_
  show AW X b0 D false 23 7282 _ 112 (up (nw (up (nw (up (nw (up (nw (up (nw (up (nw (up (nw (up (nw (up (nw (up (nw (up (nw (up (nw (up (nw (up (up (nw (up (nw (up (nw (up (nw (up (nw (up (nw (up (nw (up (nw (up (nw (up (nw M 89) 88 1 89) 90) 88 2 90) 91) 88 4 91) 92) 88 5 92) 93) 88 6 93) 94) 88 7 94) 95) 88 8 95) 96) 88 9 96) 97) 88 10 97) 98) 88 11 98) 88 12 (-1)) 99) 88 14 99) 100) 88 15 100) 101) 88 16 101) 102) 88 18 102) 103) 88 19 103) 104) 88 20 104) 105) 88 21 105) 106) 88 22 106) 107) 88 23 107) 108) 88 24 108) 109) 88 25 109) 110) 88 26 110) 111) 88 27 111) 195 [some (.inr 88)] []
  refine A_ald0 hC d_Mo_init_195 ?_
  refine A_bipush hC d_Mo_init_196 (by decide) (by decide) ?_
  refine A_newa (N := 40) hC d_Mo_init_198 za_int rfl (Or.inl ⟨rfl, rfl, rfl⟩) ly_112 (by decide) (by decide) rfl (by decide) (by decide) ?_
  show AW X b0 D false 24 7322 _ 113 (nw (up (nw (up (nw (up (nw (up (nw (up (nw (up (nw (up (nw (up (nw (up (nw (up (nw (up (nw (up (nw (up (nw (up (up (nw (up (nw (up (nw (up (nw (up (nw (up (nw (up (nw (up (nw (up (nw (up (nw M 89) 88 1 89) 90) 88 2 90) 91) 88 4 91) 92) 88 5 92) 93) 88 6 93) 94) 88 7 94) 95) 88 8 95) 96) 88 9 96) 97) 88 10 97) 98) 88 11 98) 88 12 (-1)) 99) 88 14 99) 100) 88 15 100) 101) 88 16 101) 102) 88 18 102) 103) 88 19 103) 104) 88 20 104) 105) 88 21 105) 106) 88 22 106) 107) 88 23 107) 108) 88 24 108) 109) 88 25 109) 110) 88 26 110) 111) 88 27 111) 112) 200 [some (.inr 88)] [.inr 112, .inr 88]
  refine A_put (c := 88) (x := 112) (k := 28) hC d_Mo_init_200 fP_Mo_84 (fun _ => ⟨hname, fun Cn T h => by cases h; rfl⟩) (by decide) (fx_isR 9 28 _ rfl).symm (fx_nfA b0 _ _) ly_88 (by decide) (fun h => by cases h) ?_
  show AW X b0 D false 24 7322 _ 113 (up (nw (up (nw (up (nw (up (nw (up (nw (up (nw (up (nw (up (nw (up (nw (up (nw (up (nw (up (nw (up (nw (up (nw (up (up (nw (up (nw (up (nw (up (nw (up (nw (up (nw (up (nw (up (nw (up (nw (up (nw M 89) 88 1 89) 90) 88 2 90) 91) 88 4 91) 92) 88 5 92) 93) 88 6 93) 94) 88 7 94) 95) 88 8 95) 96) 88 9 96) 97) 88 10 97) 98) 88 11 98) 88 12 (-1)) 99) 88 14 99) 100) 88 15 100) 101) 88 16 101) 102) 88 18 102) 103) 88 19 103) 104) 88 20 104) 105) 88 21 105) 106) 88 22 106) 107) 88 23 107) 108) 88 24 108) 109) 88 25 109) 110) 88 26 110) 111) 88 27 111) 112) 88 28 112) 203 [some (.inr 88)] []
  refine A_ald0 hC d_Mo_init_203 ?_
  refine A_bipush hC d_Mo_init_204 (by decide) (by decide) ?_
  refine A_newa (N := 40) hC d_Mo_init_206 za_bool rfl (Or.inr ⟨rfl, rfl, rfl⟩) ly_113 (by decide) (by decide) rfl (by decide) (by decide) ?_
  show AW X b0 D false 25 7362 _ 114 (nw (up (nw (up (nw (up (nw (up (nw (up (nw (up (nw (up (nw (up (nw (up (nw (up (nw (up (nw (up (nw (up (nw (up (nw (up (up (nw (up (nw (up (nw (up (nw (up (nw (up (nw (up (nw (up (nw (up (nw (up (nw M 89) 88 1 89) 90) 88 2 90) 91) 88 4 91) 92) 88 5 92) 93) 88 6 93) 94) 88 7 94) 95) 88 8 95) 96) 88 9 96) 97) 88 10 97) 98) 88 11 98) 88 12 (-1)) 99) 88 14 99) 100) 88 15 100) 101) 88 16 101) 102) 88 18 102) 103) 88 19 103) 104) 88 20 104) 105) 88 21 105) 106) 88 22 106) 107) 88 23 107) 108) 88 24 108) 109) 88 25 109) 110) 88 26 110) 111) 88 27 111) 112) 88 28 112) 113) 208 [some (.inr 88)] [.inr 113, .inr 88]
  refine A_put (c := 88) (x := 113) (k := 29) hC d_Mo_init_208 fP_Mo_87 (fun _ => ⟨hname, fun Cn T h => by cases h; rfl⟩) (by decide) (fx_isR 9 29 _ rfl).symm (fx_nfA b0 _ _) ly_88 (by decide) (fun h => by cases h) ?_
  show AW X b0 D false 25 7362 _ 114 (up (nw (up (nw (up (nw (up (nw (up (nw (up (nw (up (nw (up (nw (up (nw (up (nw (up (nw (up (nw (up (nw (up (nw (up (nw (up (up (nw (up (nw (up (nw (up (nw (up (nw (up (nw (up (nw (up (nw (up (nw (up (nw M 89) 88 1 89) 90) 88 2 90) 91) 88 4 91) 92) 88 5 92) 93) 88 6 93) 94) 88 7 94) 95) 88 8 95) 96) 88 9 96) 97) 88 10 97) 98) 88 11 98) 88 12 (-1)) 99) 88 14 99) 100) 88 15 100) 101) 88 16 101) 102) 88 18 102) 103) 88 19 103) 104) 88 20 104) 105) 88 21 105) 106) 88 22 106) 107) 88 23 107) 108) 88 24 108) 109) 88 25 109) 110) 88 26 110) 111) 88 27 111) 112) 88 28 112) 113) 88 29 113) 211 [some (.inr 88)] []
  refine A_ald0 hC d_Mo_init_211 ?_
  refine A_sipush hC d_Mo_init_212 (by decide) (by decide) ?_
  refine A_newa (N := 130) hC d_Mo_init_215 za_int rfl (Or.inl ⟨rfl, rfl, rfl⟩) ly_114 (by decide) (by decide) rfl (by decide) (by decide) ?_
  show AW X b0 D false 26 7492 _ 115 (nw (up (nw (up (nw (up (nw (up (nw (up (nw (up (nw (up (nw (up (nw (up (nw (up (nw (up (nw (up (nw (up (nw (up (nw (up (nw (up (up (nw (up (nw (up (nw (up (nw (up (nw (up (nw (up (nw (up (nw (up (nw (up (nw M 89) 88 1 89) 90) 88 2 90) 91) 88 4 91) 92) 88 5 92) 93) 88 6 93) 94) 88 7 94) 95) 88 8 95) 96) 88 9 96) 97) 88 10 97) 98) 88 11 98) 88 12 (-1)) 99) 88 14 99) 100) 88 15 100) 101) 88 16 101) 102) 88 18 102) 103) 88 19 103) 104) 88 20 104) 105) 88 21 105) 106) 88 22 106) 107) 88 23 107) 108) 88 24 108) 109) 88 25 109) 110) 88 26 110) 111) 88 27 111) 112) 88 28 112) 113) 88 29 113) 114) 217 [some (.inr 88)] [.inr 114, .inr 88]
  refine A_put (c := 88) (x := 114) (k := 32) hC d_Mo_init_217 fP_Mo_90 (fun _ => ⟨hname, fun Cn T h => by cases h; rfl⟩) (by decide) (fx_isR 9 32 _ rfl).symm (fx_nfA b0 _ _) ly_88 (by decide) (fun h => by cases h) ?_
  show AW X b0 D false 26 7492 _ 115 (up (nw (up (nw (up (nw (up (nw (up (nw (up (nw (up (nw (up (nw (up (nw (up (nw (up (nw (up (nw (up (nw (up (nw (up (nw (up (nw (up (up (nw (up (nw (up (nw (up (nw (up (nw (up (nw (up (nw (up (nw (up (nw (up (nw M 89) 88 1 89) 90) 88 2 90) 91) 88 4 91) 92) 88 5 92) 93) 88 6 93) 94) 88 7 94) 95) 88 8 95) 96) 88 9 96) 97) 88 10 97) 98) 88 11 98) 88 12 (-1)) 99) 88 14 99) 100) 88 15 100) 101) 88 16 101) 102) 88 18 102) 103) 88 19 103) 104) 88 20 104) 105) 88 21 105) 106) 88 22 106) 107) 88 23 107) 108) 88 24 108) 109) 88 25 109) 110) 88 26 110) 111) 88 27 111) 112) 88 28 112) 113) 88 29 113) 114) 88 32 114) 220 [some (.inr 88)] []
  refine A_ald0 hC d_Mo_init_220 ?_
  refine A_sipush hC d_Mo_init_221 (by decide) (by decide) ?_
  refine A_newa (N := 130) hC d_Mo_init_224 za_int rfl (Or.inl ⟨rfl, rfl, rfl⟩) ly_115 (by decide) (by decide) rfl (by decide) (by decide) ?_
  show AW X b0 D false 27 7622 _ 116 (nw (up (nw (up (nw (up (nw (up (nw (up (nw (up (nw (up (nw (up (nw (up (nw (up (nw (up (nw (up (nw (up (nw (up (nw (up (nw (up (nw (up (up (nw (up (nw (up (nw (up (nw (up (nw (up (nw (up (nw (up (nw (up (nw (up (nw M 89) 88 1 89) 90) 88 2 90) 91) 88 4 91) 92) 88 5 92) 93) 88 6 93) 94) 88 7 94) 95) 88 8 95) 96) 88 9 96) 97) 88 10 97) 98) 88 11 98) 88 12 (-1)) 99) 88 14 99) 100) 88 15 100) 101) 88 16 101) 102) 88 18 102) 103) 88 19 103) 104) 88 20 104) 105) 88 21 105) 106) 88 22 106) 107) 88 23 107) 108) 88 24 108) 109) 88 25 109) 110) 88 26 110) 111) 88 27 111) 112) 88 28 112) 113) 88 29 113) 114) 88 32 114) 115) 226 [some (.inr 88)] [.inr 115, .inr 88]
  refine A_put (c := 88) (x := 115) (k := 34) hC d_Mo_init_226 fP_Mo_93 (fun _ => ⟨hname, fun Cn T h => by cases h; rfl⟩) (by decide) (fx_isR 9 34 _ rfl).symm (fx_nfA b0 _ _) ly_88 (by decide) (fun h => by cases h) ?_
  show AW X b0 D false 27 7622 _ 116 (up (nw (up (nw (up (nw (up (nw (up (nw (up (nw (up (nw (up (nw (up (nw (up (nw (up (nw (up (nw (up (nw (up (nw (up (nw (up (nw (up (nw (up (up (nw (up (nw (up (nw (up (nw (up (nw (up (nw (up (nw (up (nw (up (nw (up (nw M 89) 88 1 89) 90) 88 2 90) 91) 88 4 91) 92) 88 5 92) 93) 88 6 93) 94) 88 7 94) 95) 88 8 95) 96) 88 9 96) 97) 88 10 97) 98) 88 11 98) 88 12 (-1)) 99) 88 14 99) 100) 88 15 100) 101) 88 16 101) 102) 88 18 102) 103) 88 19 103) 104) 88 20 104) 105) 88 21 105) 106) 88 22 106) 107) 88 23 107) 108) 88 24 108) 109) 88 25 109) 110) 88 26 110) 111) 88 27 111) 112) 88 28 112) 113) 88 29 113) 114) 88 32 114) 115) 88 34 115) 229 [some (.inr 88)] []
  refine A_ald0 hC d_Mo_init_229 ?_
  refine A_sipush hC d_Mo_init_230 (by decide) (by decide) ?_
  refine A_newa (N := 6000) hC d_Mo_init_233 za_int rfl (Or.inl ⟨rfl, rfl, rfl⟩) ly_116 (by decide) (by decide) rfl (by decide) (by decide) ?_
  show AW X b0 D false 28 13622 _ 117 (nw (up (nw (up (nw (up (nw (up (nw (up (nw (up (nw (up (nw (up (nw (up (nw (up (nw (up (nw (up (nw (up (nw (up (nw (up (nw (up (nw (up (nw (up (up (nw (up (nw (up (nw (up (nw (up (nw (up (nw (up (nw (up (nw (up (nw (up (nw M 89) 88 1 89) 90) 88 2 90) 91) 88 4 91) 92) 88 5 92) 93) 88 6 93) 94) 88 7 94) 95) 88 8 95) 96) 88 9 96) 97) 88 10 97) 98) 88 11 98) 88 12 (-1)) 99) 88 14 99) 100) 88 15 100) 101) 88 16 101) 102) 88 18 102) 103) 88 19 103) 104) 88 20 104) 105) 88 21 105) 106) 88 22 106) 107) 88 23 107) 108) 88 24 108) 109) 88 25 109) 110) 88 26 110) 111) 88 27 111) 112) 88 28 112) 113) 88 29 113) 114) 88 32 114) 115) 88 34 115) 116) 235 [some (.inr 88)] [.inr 116, .inr 88]
  refine A_put (c := 88) (x := 116) (k := 35) hC d_Mo_init_235 fP_Mo_96 (fun _ => ⟨hname, fun Cn T h => by cases h; rfl⟩) (by decide) (fx_isR 9 35 _ rfl).symm (fx_nfA b0 _ _) ly_88 (by decide) (fun h => by cases h) ?_
  show AW X b0 D false 28 13622 _ 117 (up (nw (up (nw (up (nw (up (nw (up (nw (up (nw (up (nw (up (nw (up (nw (up (nw (up (nw (up (nw (up (nw (up (nw (up (nw (up (nw (up (nw (up (nw (up (up (nw (up (nw (up (nw (up (nw (up (nw (up (nw (up (nw (up (nw (up (nw (up (nw M 89) 88 1 89) 90) 88 2 90) 91) 88 4 91) 92) 88 5 92) 93) 88 6 93) 94) 88 7 94) 95) 88 8 95) 96) 88 9 96) 97) 88 10 97) 98) 88 11 98) 88 12 (-1)) 99) 88 14 99) 100) 88 15 100) 101) 88 16 101) 102) 88 18 102) 103) 88 19 103) 104) 88 20 104) 105) 88 21 105) 106) 88 22 106) 107) 88 23 107) 108) 88 24 108) 109) 88 25 109) 110) 88 26 110) 111) 88 27 111) 112) 88 28 112) 113) 88 29 113) 114) 88 32 114) 115) 88 34 115) 116) 88 35 116) 238 [some (.inr 88)] []
  refine A_vret hC d_Mo_init_238 rfl (by decide) (by decide) ?_
  exact ⟨rfl, rfl, rfl⟩
set_option maxHeartbeats 4000000 in
theorem k_St_init (l : Launch) (M : Mem) (n : Nat) (c a : Int) (hc : 20 ≤ c ∧ c < 81) (hn : c < n) : AMet l m_St_init false 2 0 0 [.inr c, .inl a] n M (fun r n' M' => r = none ∧ n' = n ∧ M' = up M c 0 a) := by
  refine AM_intro (by decide) (Nat.le_of_ble_eq_true rfl) (fun X b0 D hC hname => ?_)
  show AW X b0 D false 0 0 _ n M 0 [some (.inr c), some (.inl a)] []
  refine A_ald0 hC d_St_init_0 ?_
  refine A_objInit hC d_St_init_1 lk_St_3 zo_inst zo_code (by omega) (by decide) (Nat.le_of_ble_eq_true rfl) rfl ?_
  refine A_ald0 hC d_St_init_4 ?_
  refine A_ild1 hC d_St_init_5 ?_
  refine A_put (c := c) (x := a) (k := 0) hC d_St_init_6 fP_St_9 (fun _ => ⟨hname, fun Cn T h => by cases h; rfl⟩) (by decide) (fx_isI 5 0 _ rfl).symm (fx_nfI b0 _) (ly_S hc) (by omega) (fun h => by cases h) ?_
  refine A_vret hC d_St_init_9 rfl (by decide) (by decide) ?_
  exact ⟨rfl, rfl, rfl⟩
def coM (M : Mem) : Mem := up (up M 82 0 17) 82 1 16
set_option maxHeartbeats 4000000 in
theorem k_Co_init (l : Launch) (M : Mem) : AMet l m_Co_init false 2 0 0 [.inr 82, .inr 17, .inr 16] 83 M (fun r n' M' => r = none ∧ n' = 83 ∧ M' = coM M) := by
  refine AM_intro (by decide) (Nat.le_of_ble_eq_true rfl) (fun X b0 D hC hname => ?_)
  show AW X b0 D false 0 0 _ 83 M 0 [some (.inr 82), some (.inr 17), some (.inr 16)] []
  refine A_ald0 hC d_Co_init_0 ?_
  refine A_objInit hC d_Co_init_1 lk_Co_3 zo_inst zo_code (by decide) (by decide) (Nat.le_of_ble_eq_true rfl) rfl ?_
  show AW X b0 D false 0 0 _ 83 M 4 [some (.inr 82), some (.inr 17), some (.inr 16)] []
  refine A_ald0 hC d_Co_init_4 ?_
  refine A_ald1 hC d_Co_init_5 ?_
  refine A_put (c := 82) (x := 17) (k := 0) hC d_Co_init_6 fP_Co_9 (fun _ => ⟨hname, fun Cn T h => by cases h; rfl⟩) (by decide) (fx_isR 6 0 _ rfl).symm (fx_nfO b0 _ _) ly_82 (by decide) (fun h => by cases h) ?_
  show AW X b0 D false 0 0 _ 83 (up M 82 0 17) 9 [some (.inr 82), some (.inr 17), some (.inr 16)] []
  refine A_ald0 hC d_Co_init_9 ?_
  refine A_ald2 hC d_Co_init_10 ?_
  refine A_put (c := 82) (x := 16) (k := 1) hC d_Co_init_11 fP_Co_15 (fun _ => ⟨hname, fun Cn T h => by cases h; rfl⟩) (by decide) (fx_isR 6 1 _ rfl).symm (fx_nfA b0 _ _) ly_82 (by decide) (fun h => by cases h) ?_
  show AW X b0 D false 0 0 _ 83 (up (up M 82 0 17) 82 1 16) 14 [some (.inr 82), some (.inr 17), some (.inr 16)] []
  refine A_vret hC d_Co_init_14 rfl (by decide) (by decide) ?_
  exact ⟨rfl, rfl, rfl⟩
def asM (M : Mem) : Mem := up (up (up (nw (up (paM (nw M 83)) 81 2 83) 87) 81 3 87) 81 0 6) 81 1 82
set_option maxHeartbeats 4000000 in
theorem k_As_init (l : Launch) (M : Mem) : AMet l m_As_init false 3 5 1771 [.inr 81, .inr 6, .inr 82] 83 M (fun r n' M' => r = none ∧ n' = 88 ∧ M' = asM M) := by
  refine AM_intro (by decide) (Nat.le_of_ble_eq_true rfl) (fun X b0 D hC hname => ?_)
  show AW X b0 D false 0 0 _ 83 M 0 [some (.inr 81), some (.inr 6), some (.inr 82)] []
  refine A_ald0 hC d_As_init_0 ?_
  refine A_objInit hC d_As_init_1 lk_As_3 zo_inst zo_code (by decide) (by decide) (Nat.le_of_ble_eq_true rfl) rfl ?_
  show AW X b0 D false 0 0 _ 83 M 4 [some (.inr 81), some (.inr 6), some (.inr 82)] []
  refine A_ald0 hC d_As_init_4 ?_
  refine A_new hC d_As_init_5 fN_As_9 (by decide) ly_83 (by decide) rfl (by decide) (by decide) ?_
  show AW X b0 D false 1 5 _ 84 (nw M 83) 8 [some (.inr 81), some (.inr 6), some (.inr 82)] [.inr 83, .inr 81]
  refine A_dup hC d_As_init_8 ?_
  refine A_callIN (as := []) hC d_As_init_9 mv_Pa_init lk_As_11 (by decide) ⟨rfl, rfl⟩ (by decide) (k_Pa_init l (nw M 83)) rfl rfl (Nat.le_of_ble_eq_true rfl) (by decide) rfl (fun r' n' M1 hM1 => ?_)
  obtain ⟨rfl, rfl, rfl⟩ := hM1
  show AW X b0 D false 4 1651 _ 87 (paM (nw M 83)) 12 [some (.inr 81), some (.inr 6), some (.inr 82)] [.inr 83, .inr 81]
  refine A_put (c := 81) (x := 83) (k := 2) hC d_As_init_12 fP_As_12 (fun _ => ⟨hname, fun Cn T h => by cases h; rfl⟩) (by decide) (fx_isR 8 2 _ rfl).symm (fx_nfO b0 _ _) ly_81 (by decide) (fun h => by cases h) ?_
  show AW X b0 D false 4 1651 _ 87 (up (paM (nw M 83)) 81 2 83) 15 [some (.inr 81), some (.inr 6), some (.inr 82)] []
  refine A_ald0 hC d_As_init_15 ?_
  refine A_bipush hC d_As_init_16 (by decide) (by decide) ?_
  refine A_newa (N := 120) hC d_As_init_18 za_int rfl (Or.inl ⟨rfl, rfl, rfl⟩) ly_87 (by decide) (by decide) rfl (by decide) (by decide) ?_
  show AW X b0 D false 5 1771 _ 88 (nw (up (paM (nw M 83)) 81 2 83) 87) 20 [some (.inr 81), some (.inr 6), some (.inr 82)] [.inr 87, .inr 81]
  refine A_put (c := 81) (x := 87) (k := 3) hC d_As_init_20 fP_As_18 (fun _ => ⟨hname, fun Cn T h => by cases h; rfl⟩) (by decide) (fx_isR 8 3 _ rfl).symm (fx_nfA b0 _ _) ly_81 (by decide) (fun h => by cases h) ?_
  show AW X b0 D false 5 1771 _ 88 (up (nw (up (paM (nw M 83)) 81 2 83) 87) 81 3 87) 23 [some (.inr 81), some (.inr 6), some (.inr 82)] []
  refine A_ald0 hC d_As_init_23 ?_
  refine A_ald1 hC d_As_init_24 ?_
  refine A_put (c := 81) (x := 6) (k := 0) hC d_As_init_25 fP_As_22 (fun _ => ⟨hname, fun Cn T h => by cases h; rfl⟩) (by decide) (fx_isR 8 0 _ rfl).symm (fx_nfO b0 _ _) ly_81 (by decide) (fun h => by cases h) ?_
  show AW X b0 D false 5 1771 _ 88 (up (up (nw (up (paM (nw M 83)) 81 2 83) 87) 81 3 87) 81 0 6) 28 [some (.inr 81), some (.inr 6), some (.inr 82)] []
  refine A_ald0 hC d_As_init_28 ?_
  refine A_ald2 hC d_As_init_29 ?_
  refine A_put (c := 81) (x := 82) (k := 1) hC d_As_init_30 fP_As_26 (fun _ => ⟨hname, fun Cn T h => by cases h; rfl⟩) (by decide) (fx_isR 8 1 _ rfl).symm (fx_nfO b0 _ _) ly_81 (by decide) (fun h => by cases h) ?_
  show AW X b0 D false 5 1771 _ 88 (up (up (up (nw (up (paM (nw M 83)) 81 2 83) 87) 81 3 87) 81 0 6) 81 1 82) 33 [some (.inr 81), some (.inr 6), some (.inr 82)] []
  refine A_vret hC d_As_init_33 rfl (by decide) (by decide) ?_
  exact ⟨rfl, rfl, rfl⟩
def plM (M : Mem) : Mem := up (up (up (up (nw (up (nw M 18) 17 2 18) 19) 17 3 19) 17 5 (-1)) 17 0 1) 17 1 11
/-- k steps have been made -/
def STPS (M N : Mem) (k : Nat) : Prop := (∀ c y : Int, c ≠ 18 → (c < 20 ∨ 20 + (k : Int) ≤ c) → N c y = plM M c y) ∧ ∀ i : Int, 0 ≤ i → i < (k : Int) → N 18 i = 20 + i ∧ N (20 + i) 0 = i ∧ N (20 + i) 10 = -1
def PLP (M N : Mem) : Prop := (∀ c y : Int, c ≠ 18 → (c < 20 ∨ 81 ≤ c) → N c y = plM M c y) ∧ (∀ i : Int, 0 ≤ i → i < 61 → N 18 i = 20 + i ∧ N (20 + i) 0 = i) ∧ N 20 4 = 20 ∧ N 20 10 = -1
set_option maxHeartbeats 4000000 in
theorem k_Pl_init (l : Launch) (M : Mem) : AMet l m_Pl_init false 3 64 800 [.inr 17, .inr 1, .inr 11] 18 M (fun r n' M' => r = none ∧ n' = 81 ∧ PLP M M') := by
  refine AM_intro (by decide) (Nat.le_of_ble_eq_true rfl) (fun X b0 D hC hname => ?_)
  show AW X b0 D false 0 0 (fx_Q X b0 D false 64 800 (fun r n' M' => r = none ∧ n' = 81 ∧ PLP M M')) 18 M 0 [some (.inr 17), some (.inr 1), some (.inr 11), none] []
  have p2 : plM M 17 2 = 18 := by unfold plM; rw [up_nk (by decide), up_nk (by decide), up_nk (by decide), up_nk (by decide), nw_nc (by decide), up_eq]
  have tail : ∀ N : Mem, STPS M N 61 → AW X b0 D false 63 736 (fx_Q X b0 D false 64 800 (fun r n' M' => r = none ∧ n' = 81 ∧ PLP M M')) 81 N 37 [some (.inr 17), some (.inr 1), some (.inr 11), some (.inl 61)] [] := by
    intro N hN
    have n2 : N 17 2 = 18 := by rw [hN.1 17 2 (by decide) (by decide)]; exact p2
    have n0 := hN.2 0 (by decide) (by decide)
    refine A_ild3 hC d_Pl_init_37 ?_
    refine A_ald0 hC d_Pl_init_38 ?_
    refine A_getR (kI := 2) hC d_Pl_init_39 fF_Pl_11 ⟨by decide, rfl⟩ rfl ly_17 (by decide) ?_
    rw [n2]
    refine A_alen (N := 61) hC d_Pl_init_42 ly_18 (by decide) (by decide) (by decide) ?_
    refine A_icmpge (tgt := 66) hC d_Pl_init_43 (by decide) (fun h43 => ?_) (fun h43 => ?_)
    · refine A_ald0 hC d_Pl_init_66 ?_
      refine A_getR (kI := 2) hC d_Pl_init_67 fF_Pl_11 ⟨by decide, rfl⟩ rfl ly_17 (by decide) ?_
      rw [n2]
      refine A_iconst hC d_Pl_init_70 (by decide) ?_
      refine A_aald (N := 61) hC d_Pl_init_71 ly_18 (by decide) (by decide) ?_
      rw [n0.1]
      refine A_iconst hC d_Pl_init_72 (by decide) ?_
      refine A_put (c := 20) (x := 1) (k := 1) hC d_Pl_init_73 fP_Pl_36 fx_ff (by decide) (fx_isI 5 1 _ rfl).symm (fx_nfI b0 _) (ly_S (by decide)) (by decide) (fun h => by cases h) ?_
      refine A_ald0 hC d_Pl_init_76 ?_
      refine A_getR (kI := 2) hC d_Pl_init_77 fF_Pl_11 ⟨by decide, rfl⟩ rfl ly_17 (by decide) ?_
      rw [up_nc (by decide), n2]
      refine A_iconst hC d_Pl_init_80 (by decide) ?_
      refine A_aald (N := 61) hC d_Pl_init_81 ly_18 (by decide) (by decide) ?_
      rw [up_nc (by decide), n0.1]
      refine A_ald0 hC d_Pl_init_82 ?_
      refine A_getR (kI := 2) hC d_Pl_init_83 fF_Pl_11 ⟨by decide, rfl⟩ rfl ly_17 (by decide) ?_
      rw [up_nc (by decide), n2]
      refine A_iconst hC d_Pl_init_86 (by decide) ?_
      refine A_aald (N := 61) hC d_Pl_init_87 ly_18 (by decide) (by decide) ?_
      rw [up_nc (by decide), n0.1]
      refine A_put (c := 20) (x := 20) (k := 4) hC d_Pl_init_88 fP_Pl_39 fx_ff (by decide) (fx_isR 5 4 _ rfl).symm (fx_nfO b0 _ _) (ly_S (by decide)) (by decide) (fun h => by cases h) ?_
      refine A_vret hC d_Pl_init_91 rfl (by decide) (by decide) ?_
      refine ⟨rfl, rfl, fun c y h1 h2 => ?_, fun i i1 i2 => ?_, up_eq _ _ _ _, ?_⟩
      · show up (up N 20 1 1) 20 4 20 c y = _
        rw [up_nc (by omega), up_nc (by omega), hN.1 c y h1 (by omega)]
      · have h := hN.2 i i1 (by omega)
        show up (up N 20 1 1) 20 4 20 18 i = _ ∧ up (up N 20 1 1) 20 4 20 (20 + i) 0 = _
        rw [up_nc (by decide), up_nc (by decide), up_nk (by decide), up_nk (by decide)]
        exact ⟨h.1, h.2.1⟩
      · show up (up N 20 1 1) 20 4 20 20 10 = _
        rw [up_nk (by decide), up_nk (by decide)]
        exact n0.2.2
    · exact absurd (by decide) h43
  have loop : ∀ (e k : Nat) (N : Mem), k + e = 61 → STPS M N k → AW X b0 D false (2 + k) (65 + 11 * k) (fx_Q X b0 D false 64 800 (fun r n' M' => r = none ∧ n' = 81 ∧ PLP M M')) (20 + k) N 37 [some (.inr 17), some (.inr 1), some (.inr 11), some (.inl (k : Int))] [] := by
    intro e
    induction e with
    | zero =>
      intro k N hk hN
      have hk2 : k = 61 := by omega
      subst hk2
      exact tail N hN
    | succ e ih =>
      intro k N hk hN
      have n2 : N 17 2 = 18 := by rw [hN.1 17 2 (by decide) (by omega)]; exact p2
      have hly : fx_ly ((20 + k : Nat) : Int) = (5, 11) := ly_S (by omega)
      refine A_ild3 hC d_Pl_init_37 ?_
      refine A_ald0 hC d_Pl_init_38 ?_
      refine A_getR (kI := 2) hC d_Pl_init_39 fF_Pl_11 ⟨by decide, rfl⟩ rfl ly_17 (by omega) ?_
      rw [n2]
      refine A_alen (N := 61) hC d_Pl_init_42 ly_18 (by decide) (by decide) (by omega) ?_
      refine A_icmpge (tgt := 66) hC d_Pl_init_43 (by decide) (fun h43 => ?_) (fun h43 => ?_)
      · exact absurd h43 (by omega)
      · refine A_ald0 hC d_Pl_init_46 ?_
        refine A_getR (kI := 2) hC d_Pl_init_47 fF_Pl_11 ⟨by decide, rfl⟩ rfl ly_17 (by omega) ?_
        rw [n2]
        refine A_ild3 hC d_Pl_init_50 ?_
        refine A_new hC d_Pl_init_51 fN_Pl_9 (by decide) hly (by omega) rfl (by omega) (by omega) ?_
        refine A_dup hC d_Pl_init_54 ?_
        refine A_ild3 hC d_Pl_init_55 ?_
        refine A_callI (as := [.inl (k : Int)]) hC d_Pl_init_56 mv_St_init lk_Pl_33 (by decide) ⟨rfl, rfl⟩ (by omega) (k_St_init l (nw N ((20 + k : Nat) : Int)) (20 + k + 1) ((20 + k : Nat) : Int) (k : Int) (by omega) (by omega)) rfl rfl (Nat.le_of_ble_eq_true rfl) (by omega) rfl (fun r' n' M1 hM1 => ?_)
        obtain ⟨rfl, rfl, rfl⟩ := hM1
        refine A_aast (N := 61) (N2 := 11) (c := 18) (i := (k : Int)) (x := ((20 + k : Nat) : Int)) hC d_Pl_init_59 ly_18 (by omega) (by omega) (by omega) hly (fun h => by cases h) ?_
        refine A_iinc3 hC d_Pl_init_60 (by omega) ?_
        refine A_goto (tgt := 37) hC d_Pl_init_63 (by decide) ?_
        have hnext := ih (k + 1) (up (up (nw N ((20 + k : Nat) : Int)) ((20 + k : Nat) : Int) 0 (k : Int)) 18 (k : Int) ((20 + k : Nat) : Int)) (by omega) ⟨fun c y h1 h2 => ?_, fun i i1 i2 => ?_⟩
        · rw [show 65 + 11 * (k + 1) = 65 + 11 * k + 11 + 0 by omega] at hnext
          exact hnext
        · rw [up_nc h1, up_nc (by omega), nw_nc (by omega), hN.1 c y h1 (by omega)]
        · by_cases q : i = (k : Int)
          · subst q
            refine ⟨by rw [up_eq]; omega, ?_, ?_⟩
            · rw [up_nc (by omega), show (20 : Int) + (k : Int) = ((20 + k : Nat) : Int) by omega, up_eq]
            · rw [up_nc (by omega), show (20 : Int) + (k : Int) = ((20 + k : Nat) : Int) by omega, up_nk (by decide), nw_1 (by unfold fx_rd; rw [hly]; rfl)]
          · have h := hN.2 i i1 (by omega)
            rw [up_nk (by omega), up_nc (by omega), nw_nc (by omega), up_nc (by omega), up_nc (by omega), nw_nc (by omega), up_nc (by omega), up_nc (by omega), nw_nc (by omega)]
            exact h
  refine A_ald0 hC d_Pl_init_0 ?_
  refine A_objInit hC d_Pl_init_1 lk_Pl_3 zo_inst zo_code (by decide) (by decide) (Nat.le_of_ble_eq_true rfl) rfl ?_
  show AW X b0 D false 0 0 _ 18 M 4 [some (.inr 17), some (.inr 1), some (.inr 11), none] []
  refine A_ald0 hC d_Pl_init_4 ?_
  refine A_bipush hC d_Pl_init_5 (by decide) (by decide) ?_
  refine A_newq (N := 61) hC d_Pl_init_7 cn_Pl_9 ly_18 (by decide) (by decide) rfl (by decide) (by decide) ?_
  show AW X b0 D false 1 61 _ 19 (nw M 18) 10 [some (.inr 17), some (.inr 1), some (.inr 11), none] [.inr 18, .inr 17]
  refine A_put (c := 17) (x := 18) (k := 2) hC d_Pl_init_10 fP_Pl_11 (fun _ => ⟨hname, fun Cn T h => by cases h; rfl⟩) (by decide) (fx_isR 4 2 _ rfl).symm (fx_nfA b0 _ _) ly_17 (by decide) (fun h => by cases h) ?_
  show AW X b0 D false 1 61 _ 19 (up (nw M 18) 17 2 18) 13 [some (.inr 17), some (.inr 1), some (.inr 11), none] []
  refine A_ald0 hC d_Pl_init_13 ?_
  refine A_iconst hC d_Pl_init_14 (by decide) ?_
  refine A_newa (N := 4) hC d_Pl_init_15 za_bool rfl (Or.inr ⟨rfl, rfl, rfl⟩) ly_19 (by decide) (by decide) rfl (by decide) (by decide) ?_
  show AW X b0 D false 2 65 _ 20 (nw (up (nw M 18) 17 2 18) 19) 17 [some (.inr 17), some (.inr 1), some (.inr 11), none] [.inr 19, .inr 17]
  refine A_put (c := 17) (x := 19) (k := 3) hC d_Pl_init_17 fP_Pl_17 (fun _ => ⟨hname, fun Cn T h => by cases h; rfl⟩) (by decide) (fx_isR 4 3 _ rfl).symm (fx_nfA b0 _ _) ly_17 (by decide) (fun h => by cases h) ?_
  show AW X b0 D false 2 65 _ 20 (up (nw (up (nw M 18) 17 2 18) 19) 17 3 19) 20 [some (.inr 17), some (.inr 1), some (.inr 11), none] []
  refine A_ald0 hC d_Pl_init_20 ?_
  refine A_iconst hC d_Pl_init_21 (by decide) ?_
  refine A_put (c := 17) (x := -1) (k := 5) hC d_Pl_init_22 fP_Pl_21 fx_ff (by decide) (fx_isI 4 5 _ rfl).symm (fx_nfI b0 _) ly_17 (by decide) (fun h => by cases h) ?_
  show AW X b0 D false 2 65 _ 20 (up (up (nw (up (nw M 18) 17 2 18) 19) 17 3 19) 17 5 (-1)) 25 [some (.inr 17), some (.inr 1), some (.inr 11), none] []
  refine A_ald0 hC d_Pl_init_25 ?_
  refine A_ald1 hC d_Pl_init_26 ?_
  refine A_put (c := 17) (x := 1) (k := 0) hC d_Pl_init_27 fP_Pl_25 (fun _ => ⟨hname, fun Cn T h => by cases h; rfl⟩) (by decide) (fx_isR 4 0 _ rfl).symm (fx_nfO b0 _ _) ly_17 (by decide) (fun h => by cases h) ?_
  show AW X b0 D false 2 65 _ 20 (up (up (up (nw (up (nw M 18) 17 2 18) 19) 17 3 19) 17 5 (-1)) 17 0 1) 30 [some (.inr 17), some (.inr 1), some (.inr 11), none] []
  refine A_ald0 hC d_Pl_init_30 ?_
  refine A_ald2 hC d_Pl_init_31 ?_
  refine A_put (c := 17) (x := 11) (k := 1) hC d_Pl_init_32 fP_Pl_29 (fun _ => ⟨hname, fun Cn T h => by cases h; rfl⟩) (by decide) (fx_isR 4 1 _ rfl).symm (fx_nfO b0 _ _) ly_17 (by decide) (fun h => by cases h) ?_
  show AW X b0 D false 2 65 _ 20 (up (up (up (up (nw (up (nw M 18) 17 2 18) 19) 17 3 19) 17 5 (-1)) 17 0 1) 17 1 11) 35 [some (.inr 17), some (.inr 1), some (.inr 11), none] []
  refine A_iconst hC d_Pl_init_35 (by decide) ?_
  refine A_ist3 hC d_Pl_init_36 ?_
  exact loop 61 0 (plM M) (by decide) ⟨fun c y _ _ => rfl, fun i i1 i2 => by omega⟩
