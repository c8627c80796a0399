/-- the class's cells when it is built -/
def GP (N : Mem) : Prop := (N 0 0 = 1 ∧ N 0 1 = 6 ∧ N 0 2 = 11 ∧ N 0 3 = 16 ∧ N 0 4 = 17 ∧ N 0 5 = 81 ∧ N 1 0 = 2 ∧ N 1 1 = 3 ∧ N 1 2 = 4 ∧ N 1 3 = 5 ∧ N 6 0 = 7 ∧ N 6 1 = 8 ∧ N 6 2 = 9 ∧ N 6 3 = 10 ∧ N 11 0 = 12 ∧ N 11 1 = 13 ∧ N 11 2 = 14 ∧ N 11 3 = 15 ∧ N 17 0 = 1 ∧ N 17 1 = 11 ∧ N 17 2 = 18 ∧ N 17 3 = 19 ∧ N 81 0 = 6 ∧ N 81 1 = 82 ∧ N 81 2 = 83 ∧ N 81 3 = 87 ∧ N 82 0 = 17 ∧ N 82 1 = 16 ∧ N 83 0 = 84 ∧ N 83 1 = 85 ∧ N 83 2 = 86 ∧ N 1 4 = 0 ∧ N 6 4 = 0 ∧ N 17 5 = -1 ∧ N 81 4 = 0 ∧ N 81 5 = 0 ∧ N 81 6 = 0 ∧ N 83 3 = 0 ∧ N 83 4 = 0) ∧ ((∀ k : Int, N 2 k = 0) ∧ (∀ k : Int, N 3 k = 0) ∧ (∀ k : Int, N 4 k = 0) ∧ (∀ k : Int, N 5 k = 0) ∧ (∀ k : Int, N 7 k = 0) ∧ (∀ k : Int, N 8 k = 0) ∧ (∀ k : Int, N 9 k = 0) ∧ (∀ k : Int, N 10 k = 0) ∧ (∀ k : Int, N 12 k = 0) ∧ (∀ k : Int, N 13 k = 0) ∧ (∀ k : Int, N 14 k = 0) ∧ (∀ k : Int, N 15 k = 0) ∧ (∀ k : Int, N 16 k = 0)) ∧ (∀ i : Int, 0 ≤ i → i < 61 → N 18 i = 20 + i ∧ N (20 + i) 0 = i) ∧ N 20 4 = 20 ∧ N 20 10 = -1
set_option maxHeartbeats 4000000 in
theorem k_G_init (l : Launch) (M : Mem) : AMet l m_G_init false 5 88 3168 [.inr 0] 1 M (fun r n' M' => r = none ∧ n' = 88 ∧ GP M') := by
  refine AM_intro (by decide) (Nat.le_of_ble_eq_true rfl) (fun X b0 D hC hname => ?_)
  show AW X b0 D false 0 0 _ 1 M 0 [some (.inr 0)] []
  refine A_ald0 hC d_G_init_0 ?_
  refine A_objInit hC d_G_init_1 lk_G_3 zo_inst zo_code (by decide) (by decide) (Nat.le_of_ble_eq_true rfl) rfl ?_
  show AW X b0 D false 0 0 _ 1 M 4 [some (.inr 0)] []
  refine A_ald0 hC d_G_init_4 ?_
  refine A_new hC d_G_init_5 fN_G_9 (by decide) ly_1 (by decide) rfl (by decide) (by decide) ?_
  show AW X b0 D false 1 5 _ 2 (nw M 1) 8 [some (.inr 0)] [.inr 1, .inr 0]
  refine A_dup hC d_G_init_8 ?_
  refine A_callIN (as := []) hC d_G_init_9 mv_Sc_init lk_G_11 (by decide) ⟨rfl, rfl⟩ (by decide) (k_Sc_init l (nw M 1)) rfl rfl (Nat.le_of_ble_eq_true rfl) (by decide) rfl (fun r' n' M1 hM1 => ?_)
  obtain ⟨rfl, rfl, rfl⟩ := hM1
  show AW X b0 D false 5 70 _ 6 (scM (nw M 1)) 12 [some (.inr 0)] [.inr 1, .inr 0]
  refine A_put (c := 0) (x := 1) (k := 0) hC d_G_init_12 fP_G_12 (fun _ => ⟨hname, fun Cn T h => by cases h; rfl⟩) (by decide) (fx_isR 0 0 _ rfl).symm (fx_nfO b0 _ _) ly_0 (by decide) (fun h => by cases h) ?_
  show AW X b0 D false 5 70 _ 6 (up (scM (nw M 1)) 0 0 1) 15 [some (.inr 0)] []
  refine A_ald0 hC d_G_init_15 ?_
  refine A_new hC d_G_init_16 fN_G_16 (by decide) ly_6 (by decide) rfl (by decide) (by decide) ?_
  show AW X b0 D false 6 75 _ 7 (nw (up (scM (nw M 1)) 0 0 1) 6) 19 [some (.inr 0)] [.inr 6, .inr 0]
  refine A_dup hC d_G_init_19 ?_
  refine A_callIN (as := []) hC d_G_init_20 mv_Ro_init lk_G_18 (by decide) ⟨rfl, rfl⟩ (by decide) (k_Ro_init l (nw (up (scM (nw M 1)) 0 0 1) 6)) rfl rfl (Nat.le_of_ble_eq_true rfl) (by decide) rfl (fun r' n' M1 hM1 => ?_)
  obtain ⟨rfl, rfl, rfl⟩ := hM1
  show AW X b0 D false 10 375 _ 11 (roM (nw (up (scM (nw M 1)) 0 0 1) 6)) 23 [some (.inr 0)] [.inr 6, .inr 0]
  refine A_put (c := 0) (x := 6) (k := 1) hC d_G_init_23 fP_G_19 (fun _ => ⟨hname, fun Cn T h => by cases h; rfl⟩) (by decide) (fx_isR 0 1 _ rfl).symm (fx_nfO b0 _ _) ly_0 (by decide) (fun h => by cases h) ?_
  show AW X b0 D false 10 375 _ 11 (up (roM (nw (up (scM (nw M 1)) 0 0 1) 6)) 0 1 6) 26 [some (.inr 0)] []
  refine A_ald0 hC d_G_init_26 ?_
  refine A_new hC d_G_init_27 fN_G_23 (by decide) ly_11 (by decide) rfl (by decide) (by decide) ?_
  show AW X b0 D false 11 379 _ 12 (nw (up (roM (nw (up (scM (nw M 1)) 0 0 1) 6)) 0 1 6) 11) 30 [some (.inr 0)] [.inr 11, .inr 0]
  refine A_dup hC d_G_init_30 ?_
  refine A_callIN (as := []) hC d_G_init_31 mv_Te_init lk_G_25 (by decide) ⟨rfl, rfl⟩ (by decide) (k_Te_init l (nw (up (roM (nw (up (scM (nw M 1)) 0 0 1) 6)) 0 1 6) 11)) rfl rfl (Nat.le_of_ble_eq_true rfl) (by decide) rfl (fun r' n' M1 hM1 => ?_)
  obtain ⟨rfl, rfl, rfl⟩ := hM1
  show AW X b0 D false 15 575 _ 16 (teM (nw (up (roM (nw (up (scM (nw M 1)) 0 0 1) 6)) 0 1 6) 11)) 34 [some (.inr 0)] [.inr 11, .inr 0]
  refine A_put (c := 0) (x := 11) (k := 2) hC d_G_init_34 fP_G_26 (fun _ => ⟨hname, fun Cn T h => by cases h; rfl⟩) (by decide) (fx_isR 0 2 _ rfl).symm (fx_nfO b0 _ _) ly_0 (by decide) (fun h => by cases h) ?_
  show AW X b0 D false 15 575 _ 16 (up (teM (nw (up (roM (nw (up (scM (nw M 1)) 0 0 1) 6)) 0 1 6) 11)) 0 2 11) 37 [some (.inr 0)] []
  refine A_ald0 hC d_G_init_37 ?_
  refine A_iconst hC d_G_init_38 (by decide) ?_
  refine A_newa (N := 4) hC d_G_init_39 za_int rfl (Or.inl ⟨rfl, rfl, rfl⟩) ly_16 (by decide) (by decide) rfl (by decide) (by decide) ?_
  show AW X b0 D false 16 579 _ 17 (nw (up (teM (nw (up (roM (nw (up (scM (nw M 1)) 0 0 1) 6)) 0 1 6) 11)) 0 2 11) 16) 41 [some (.inr 0)] [.inr 16, .inr 0]
  refine A_put (c := 0) (x := 16) (k := 3) hC d_G_init_41 fP_G_30 (fun _ => ⟨hname, fun Cn T h => by cases h; rfl⟩) (by decide) (fx_isR 0 3 _ rfl).symm (fx_nfA b0 _ _) ly_0 (by decide) (fun h => by cases h) ?_
  show AW X b0 D false 16 579 _ 17 (up (nw (up (teM (nw (up (roM (nw (up (scM (nw M 1)) 0 0 1) 6)) 0 1 6) 11)) 0 2 11) 16) 0 3 16) 44 [some (.inr 0)] []
  refine A_ald0 hC d_G_init_44 ?_
  refine A_new hC d_G_init_45 fN_G_34 (by decide) ly_17 (by decide) rfl (by decide) (by decide) ?_
  show AW X b0 D false 17 585 _ 18 (nw (up (nw (up (teM (nw (up (roM (nw (up (scM (nw M 1)) 0 0 1) 6)) 0 1 6) 11)) 0 2 11) 16) 0 3 16) 17) 48 [some (.inr 0)] [.inr 17, .inr 0]
  refine A_dup hC d_G_init_48 ?_
  refine A_ald0 hC d_G_init_49 ?_
  have h50 : (nw (up (nw (up (teM (nw (up (roM (nw (up (scM (nw M 1)) 0 0 1) 6)) 0 1 6) 11)) 0 2 11) 16) 0 3 16) 17) 0 0 = 1 := by
    try simp only [scM, roM, teM, asM, paM, coM, plM]
    rw [nw_nc (by decide), up_nk (by decide), nw_nc (by decide), up_nk (by decide), up_nc (by decide), nw_nc (by decide), up_nc (by decide), nw_nc (by decide), up_nc (by decide), nw_nc (by decide), up_nc (by decide), nw_nc (by decide), nw_nc (by decide), up_nk (by decide), up_nc (by decide), nw_nc (by decide), up_nc (by decide), nw_nc (by decide), up_nc (by decide), nw_nc (by decide), up_nc (by decide), nw_nc (by decide), nw_nc (by decide), up_eq]
  refine A_getR (kI := 0) hC d_G_init_50 fF_G_12 ⟨by decide, rfl⟩ rfl ly_0 (by decide) ?_
  rw [h50]
  show AW X b0 D false 17 585 _ 18 (nw (up (nw (up (teM (nw (up (roM (nw (up (scM (nw M 1)) 0 0 1) 6)) 0 1 6) 11)) 0 2 11) 16) 0 3 16) 17) 53 [some (.inr 0)] [.inr 1, .inr 17, .inr 17, .inr 0]
  refine A_ald0 hC d_G_init_53 ?_
  have h54 : (nw (up (nw (up (teM (nw (up (roM (nw (up (scM (nw M 1)) 0 0 1) 6)) 0 1 6) 11)) 0 2 11) 16) 0 3 16) 17) 0 2 = 11 := by
    try simp only [scM, roM, teM, asM, paM, coM, plM]
    rw [nw_nc (by decide), up_nk (by decide), nw_nc (by decide), up_eq]
  refine A_getR (kI := 2) hC d_G_init_54 fF_G_26 ⟨by decide, rfl⟩ rfl ly_0 (by decide) ?_
  rw [h54]
  show AW X b0 D false 17 585 _ 18 (nw (up (nw (up (teM (nw (up (roM (nw (up (scM (nw M 1)) 0 0 1) 6)) 0 1 6) 11)) 0 2 11) 16) 0 3 16) 17) 57 [some (.inr 0)] [.inr 11, .inr 1, .inr 17, .inr 17, .inr 0]
  refine A_callI (as := [.inr 1, .inr 11]) hC d_G_init_57 mv_Pl_init lk_G_36 (by decide) ⟨rfl, rfl⟩ (by decide) (k_Pl_init l (nw (up (nw (up (teM (nw (up (roM (nw (up (scM (nw M 1)) 0 0 1) 6)) 0 1 6) 11)) 0 2 11) 16) 0 3 16) 17)) rfl rfl (Nat.le_of_ble_eq_true rfl) (by decide) rfl (fun r' n' M1 hM1 => ?_)
  obtain ⟨rfl, rfl, hPl⟩ := hM1
  generalize M1 = Mp at hPl
  show AW X b0 D false 81 1385 _ 81 Mp 60 [some (.inr 0)] [.inr 17, .inr 0]
  refine A_put (c := 0) (x := 17) (k := 4) hC d_G_init_60 fP_G_39 (fun _ => ⟨hname, fun Cn T h => by cases h; rfl⟩) (by decide) (fx_isR 0 4 _ rfl).symm (fx_nfO b0 _ _) ly_0 (by decide) (fun h => by cases h) ?_
  show AW X b0 D false 81 1385 _ 81 (up Mp 0 4 17) 63 [some (.inr 0)] []
  refine A_ald0 hC d_G_init_63 ?_
  refine A_new hC d_G_init_64 fN_G_43 (by decide) ly_81 (by decide) rfl (by decide) (by decide) ?_
  show AW X b0 D false 82 1392 _ 82 (nw (up Mp 0 4 17) 81) 67 [some (.inr 0)] [.inr 81, .inr 0]
  refine A_dup hC d_G_init_67 ?_
  refine A_ald0 hC d_G_init_68 ?_
  have h69 : (nw (up Mp 0 4 17) 81) 0 1 = 6 := by
    try simp only [scM, roM, teM, asM, paM, coM, plM]
    rw [nw_nc (by decide), up_nk (by decide), hPl.1 0 1 (by decide) (by decide)]
    try simp only [scM, roM, teM, asM, paM, coM, plM]
    rw [up_nc (by decide), up_nc (by decide), up_nc (by decide), up_nc (by decide), nw_nc (by decide), up_nc (by decide), nw_nc (by decide), nw_nc (by decide), up_nk (by decide), nw_nc (by decide), up_nk (by decide), up_nc (by decide), nw_nc (by decide), up_nc (by decide), nw_nc (by decide), up_nc (by decide), nw_nc (by decide), up_nc (by decide), nw_nc (by decide), nw_nc (by decide), up_eq]
  refine A_getR (kI := 1) hC d_G_init_69 fF_G_19 ⟨by decide, rfl⟩ rfl ly_0 (by decide) ?_
  rw [h69]
  show AW X b0 D false 82 1392 _ 82 (nw (up Mp 0 4 17) 81) 72 [some (.inr 0)] [.inr 6, .inr 81, .inr 81, .inr 0]
  refine A_new hC d_G_init_72 fN_G_45 (by decide) ly_82 (by decide) rfl (by decide) (by decide) ?_
  show AW X b0 D false 83 1397 _ 83 (nw (nw (up Mp 0 4 17) 81) 82) 75 [some (.inr 0)] [.inr 82, .inr 6, .inr 81, .inr 81, .inr 0]
  refine A_dup hC d_G_init_75 ?_
  refine A_ald0 hC d_G_init_76 ?_
  have h77 : (nw (nw (up Mp 0 4 17) 81) 82) 0 4 = 17 := by
    try simp only [scM, roM, teM, asM, paM, coM, plM]
    rw [nw_nc (by decide), nw_nc (by decide), up_eq]
  refine A_getR (kI := 4) hC d_G_init_77 fF_G_39 ⟨by decide, rfl⟩ rfl ly_0 (by decide) ?_
  rw [h77]
  show AW X b0 D false 83 1397 _ 83 (nw (nw (up Mp 0 4 17) 81) 82) 80 [some (.inr 0)] [.inr 17, .inr 82, .inr 82, .inr 6, .inr 81, .inr 81, .inr 0]
  refine A_ald0 hC d_G_init_80 ?_
  have h81 : (nw (nw (up Mp 0 4 17) 81) 82) 0 3 = 16 := by
    try simp only [scM, roM, teM, asM, paM, coM, plM]
    rw [nw_nc (by decide), nw_nc (by decide), up_nk (by decide), hPl.1 0 3 (by decide) (by decide)]
    try simp only [scM, roM, teM, asM, paM, coM, plM]
    rw [up_nc (by decide), up_nc (by decide), up_nc (by decide), up_nc (by decide), nw_nc (by decide), up_nc (by decide), nw_nc (by decide), nw_nc (by decide), up_eq]
  refine A_getR (kI := 3) hC d_G_init_81 fF_G_30 ⟨by decide, rfl⟩ rfl ly_0 (by decide) ?_
  rw [h81]
  show AW X b0 D false 83 1397 _ 83 (nw (nw (up Mp 0 4 17) 81) 82) 84 [some (.inr 0)] [.inr 16, .inr 17, .inr 82, .inr 82, .inr 6, .inr 81, .inr 81, .inr 0]
  refine A_callI (as := [.inr 17, .inr 16]) hC d_G_init_84 mv_Co_init lk_G_47 (by decide) ⟨rfl, rfl⟩ (by decide) (k_Co_init l (nw (nw (up Mp 0 4 17) 81) 82)) rfl rfl (Nat.le_of_ble_eq_true rfl) (by decide) rfl (fun r' n' M1 hM1 => ?_)
  obtain ⟨rfl, rfl, rfl⟩ := hM1
  show AW X b0 D false 83 1397 _ 83 (coM (nw (nw (up Mp 0 4 17) 81) 82)) 87 [some (.inr 0)] [.inr 82, .inr 6, .inr 81, .inr 81, .inr 0]
  refine A_callI (as := [.inr 6, .inr 82]) hC d_G_init_87 mv_As_init lk_G_50 (by decide) ⟨rfl, rfl⟩ (by decide) (k_As_init l (coM (nw (nw (up Mp 0 4 17) 81) 82))) rfl rfl (Nat.le_of_ble_eq_true rfl) (by decide) rfl (fun r' n' M1 hM1 => ?_)
  obtain ⟨rfl, rfl, rfl⟩ := hM1
  show AW X b0 D false 88 3168 _ 88 (asM (coM (nw (nw (up Mp 0 4 17) 81) 82))) 90 [some (.inr 0)] [.inr 81, .inr 0]
  refine A_put (c := 0) (x := 81) (k := 5) hC d_G_init_90 fP_G_53 (fun _ => ⟨hname, fun Cn T h => by cases h; rfl⟩) (by decide) (fx_isR 0 5 _ rfl).symm (fx_nfO b0 _ _) ly_0 (by decide) (fun h => by cases h) ?_
  show AW X b0 D false 88 3168 _ 88 (up (asM (coM (nw (nw (up Mp 0 4 17) 81) 82))) 0 5 81) 93 [some (.inr 0)] []
  refine A_vret hC d_G_init_93 rfl (by decide) (by decide) ?_
  refine ⟨rfl, rfl, ⟨?_, ?_, ?_, ?_, ?_, ?_, ?_, ?_, ?_, ?_, ?_, ?_, ?_, ?_, ?_, ?_, ?_, ?_, ?_, ?_, ?_, ?_, ?_, ?_, ?_, ?_, ?_, ?_, ?_, ?_, ?_, ?_, ?_, ?_, ?_, ?_, ?_, ?_, ?_⟩, ⟨fun k => ?_, fun k => ?_, fun k => ?_, fun k => ?_, fun k => ?_, fun k => ?_, fun k => ?_, fun k => ?_, fun k => ?_, fun k => ?_, fun k => ?_, fun k => ?_, fun k => ?_⟩, fun i i1 i2 => ?_, ?_, ?_⟩
  · show (up (asM (coM (nw (nw (up Mp 0 4 17) 81) 82))) 0 5 81) 0 0 = 1
    try simp only [scM, roM, teM, asM, paM, coM, plM]
    rw [up_nk (by decide), up_nc (by decide), up_nc (by decide), up_nc (by decide), nw_nc (by decide), up_nc (by decide), up_nc (by decide), nw_nc (by decide), up_nc (by decide), nw_nc (by decide), up_nc (by decide), nw_nc (by decide), nw_nc (by decide), up_nc (by decide), up_nc (by decide), nw_nc (by decide), nw_nc (by decide), up_nk (by decide), hPl.1 0 0 (by decide) (by decide)]
    try simp only [scM, roM, teM, asM, paM, coM, plM]
    rw [up_nc (by decide), up_nc (by decide), up_nc (by decide), up_nc (by decide), nw_nc (by decide), up_nc (by decide), nw_nc (by decide), nw_nc (by decide), up_nk (by decide), nw_nc (by decide), up_nk (by decide), up_nc (by decide), nw_nc (by decide), up_nc (by decide), nw_nc (by decide), up_nc (by decide), nw_nc (by decide), up_nc (by decide), nw_nc (by decide), nw_nc (by decide), up_nk (by decide), up_nc (by decide), nw_nc (by decide), up_nc (by decide), nw_nc (by decide), up_nc (by decide), nw_nc (by decide), up_nc (by decide), nw_nc (by decide), nw_nc (by decide), up_eq]
  · show (up (asM (coM (nw (nw (up Mp 0 4 17) 81) 82))) 0 5 81) 0 1 = 6
    try simp only [scM, roM, teM, asM, paM, coM, plM]
    rw [up_nk (by decide), up_nc (by decide), up_nc (by decide), up_nc (by decide), nw_nc (by decide), up_nc (by decide), up_nc (by decide), nw_nc (by decide), up_nc (by decide), nw_nc (by decide), up_nc (by decide), nw_nc (by decide), nw_nc (by decide), up_nc (by decide), up_nc (by decide), nw_nc (by decide), nw_nc (by decide), up_nk (by decide), hPl.1 0 1 (by decide) (by decide)]
    try simp only [scM, roM, teM, asM, paM, coM, plM]
    rw [up_nc (by decide), up_nc (by decide), up_nc (by decide), up_nc (by decide), nw_nc (by decide), up_nc (by decide), nw_nc (by decide), nw_nc (by decide), up_nk (by decide), nw_nc (by decide), up_nk (by decide), up_nc (by decide), nw_nc (by decide), up_nc (by decide), nw_nc (by decide), up_nc (by decide), nw_nc (by decide), up_nc (by decide), nw_nc (by decide), nw_nc (by decide), up_eq]
  · show (up (asM (coM (nw (nw (up Mp 0 4 17) 81) 82))) 0 5 81) 0 2 = 11
    try simp only [scM, roM, teM, asM, paM, coM, plM]
    rw [up_nk (by decide), up_nc (by decide), up_nc (by decide), up_nc (by decide), nw_nc (by decide), up_nc (by decide), up_nc (by decide), nw_nc (by decide), up_nc (by decide), nw_nc (by decide), up_nc (by decide), nw_nc (by decide), nw_nc (by decide), up_nc (by decide), up_nc (by decide), nw_nc (by decide), nw_nc (by decide), up_nk (by decide), hPl.1 0 2 (by decide) (by decide)]
    try simp only [scM, roM, teM, asM, paM, coM, plM]
    rw [up_nc (by decide), up_nc (by decide), up_nc (by decide), up_nc (by decide), nw_nc (by decide), up_nc (by decide), nw_nc (by decide), nw_nc (by decide), up_nk (by decide), nw_nc (by decide), up_eq]
  · show (up (asM (coM (nw (nw (up Mp 0 4 17) 81) 82))) 0 5 81) 0 3 = 16
    try simp only [scM, roM, teM, asM, paM, coM, plM]
    rw [up_nk (by decide), up_nc (by decide), up_nc (by decide), up_nc (by decide), nw_nc (by decide), up_nc (by decide), up_nc (by decide), nw_nc (by decide), up_nc (by decide), nw_nc (by decide), up_nc (by decide), nw_nc (by decide), nw_nc (by decide), up_nc (by decide), up_nc (by decide), nw_nc (by decide), nw_nc (by decide), up_nk (by decide), hPl.1 0 3 (by decide) (by decide)]
    try simp only [scM, roM, teM, asM, paM, coM, plM]
    rw [up_nc (by decide), up_nc (by decide), up_nc (by decide), up_nc (by decide), nw_nc (by decide), up_nc (by decide), nw_nc (by decide), nw_nc (by decide), up_eq]
  · show (up (asM (coM (nw (nw (up Mp 0 4 17) 81) 82))) 0 5 81) 0 4 = 17
    try simp only [scM, roM, teM, asM, paM, coM, plM]
    rw [up_nk (by decide), up_nc (by decide), up_nc (by decide), up_nc (by decide), nw_nc (by decide), up_nc (by decide), up_nc (by decide), nw_nc (by decide), up_nc (by decide), nw_nc (by decide), up_nc (by decide), nw_nc (by decide), nw_nc (by decide), up_nc (by decide), up_nc (by decide), nw_nc (by decide), nw_nc (by decide), up_eq]
  · show (up (asM (coM (nw (nw (up Mp 0 4 17) 81) 82))) 0 5 81) 0 5 = 81
    try simp only [scM, roM, teM, asM, paM, coM, plM]
    rw [up_eq]
  · show (up (asM (coM (nw (nw (up Mp 0 4 17) 81) 82))) 0 5 81) 1 0 = 2
    try simp only [scM, roM, teM, asM, paM, coM, plM]
    rw [up_nc (by decide), up_nc (by decide), up_nc (by decide), up_nc (by decide), nw_nc (by decide), up_nc (by decide), up_nc (by decide), nw_nc (by decide), up_nc (by decide), nw_nc (by decide), up_nc (by decide), nw_nc (by decide), nw_nc (by decide), up_nc (by decide), up_nc (by decide), nw_nc (by decide), nw_nc (by decide), up_nc (by decide), hPl.1 1 0 (by decide) (by decide)]
    try simp only [scM, roM, teM, asM, paM, coM, plM]
    rw [up_nc (by decide), up_nc (by decide), up_nc (by decide), up_nc (by decide), nw_nc (by decide), up_nc (by decide), nw_nc (by decide), nw_nc (by decide), up_nc (by decide), nw_nc (by decide), up_nc (by decide), up_nc (by decide), nw_nc (by decide), up_nc (by decide), nw_nc (by decide), up_nc (by decide), nw_nc (by decide), up_nc (by decide), nw_nc (by decide), nw_nc (by decide), up_nc (by decide), up_nc (by decide), nw_nc (by decide), up_nc (by decide), nw_nc (by decide), up_nc (by decide), nw_nc (by decide), up_nc (by decide), nw_nc (by decide), nw_nc (by decide), up_nc (by decide), up_nk (by decide), nw_nc (by decide), up_nk (by decide), nw_nc (by decide), up_nk (by decide), nw_nc (by decide), up_eq]
  · show (up (asM (coM (nw (nw (up Mp 0 4 17) 81) 82))) 0 5 81) 1 1 = 3
    try simp only [scM, roM, teM, asM, paM, coM, plM]
    rw [up_nc (by decide), up_nc (by decide), up_nc (by decide), up_nc (by decide), nw_nc (by decide), up_nc (by decide), up_nc (by decide), nw_nc (by decide), up_nc (by decide), nw_nc (by decide), up_nc (by decide), nw_nc (by decide), nw_nc (by decide), up_nc (by decide), up_nc (by decide), nw_nc (by decide), nw_nc (by decide), up_nc (by decide), hPl.1 1 1 (by decide) (by decide)]
    try simp only [scM, roM, teM, asM, paM, coM, plM]
    rw [up_nc (by decide), up_nc (by decide), up_nc (by decide), up_nc (by decide), nw_nc (by decide), up_nc (by decide), nw_nc (by decide), nw_nc (by decide), up_nc (by decide), nw_nc (by decide), up_nc (by decide), up_nc (by decide), nw_nc (by decide), up_nc (by decide), nw_nc (by decide), up_nc (by decide), nw_nc (by decide), up_nc (by decide), nw_nc (by decide), nw_nc (by decide), up_nc (by decide), up_nc (by decide), nw_nc (by decide), up_nc (by decide), nw_nc (by decide), up_nc (by decide), nw_nc (by decide), up_nc (by decide), nw_nc (by decide), nw_nc (by decide), up_nc (by decide), up_nk (by decide), nw_nc (by decide), up_nk (by decide), nw_nc (by decide), up_eq]
  · show (up (asM (coM (nw (nw (up Mp 0 4 17) 81) 82))) 0 5 81) 1 2 = 4
    try simp only [scM, roM, teM, asM, paM, coM, plM]
    rw [up_nc (by decide), up_nc (by decide), up_nc (by decide), up_nc (by decide), nw_nc (by decide), up_nc (by decide), up_nc (by decide), nw_nc (by decide), up_nc (by decide), nw_nc (by decide), up_nc (by decide), nw_nc (by decide), nw_nc (by decide), up_nc (by decide), up_nc (by decide), nw_nc (by decide), nw_nc (by decide), up_nc (by decide), hPl.1 1 2 (by decide) (by decide)]
    try simp only [scM, roM, teM, asM, paM, coM, plM]
    rw [up_nc (by decide), up_nc (by decide), up_nc (by decide), up_nc (by decide), nw_nc (by decide), up_nc (by decide), nw_nc (by decide), nw_nc (by decide), up_nc (by decide), nw_nc (by decide), up_nc (by decide), up_nc (by decide), nw_nc (by decide), up_nc (by decide), nw_nc (by decide), up_nc (by decide), nw_nc (by decide), up_nc (by decide), nw_nc (by decide), nw_nc (by decide), up_nc (by decide), up_nc (by decide), nw_nc (by decide), up_nc (by decide), nw_nc (by decide), up_nc (by decide), nw_nc (by decide), up_nc (by decide), nw_nc (by decide), nw_nc (by decide), up_nc (by decide), up_nk (by decide), nw_nc (by decide), up_eq]
  · show (up (asM (coM (nw (nw (up Mp 0 4 17) 81) 82))) 0 5 81) 1 3 = 5
    try simp only [scM, roM, teM, asM, paM, coM, plM]
    rw [up_nc (by decide), up_nc (by decide), up_nc (by decide), up_nc (by decide), nw_nc (by decide), up_nc (by decide), up_nc (by decide), nw_nc (by decide), up_nc (by decide), nw_nc (by decide), up_nc (by decide), nw_nc (by decide), nw_nc (by decide), up_nc (by decide), up_nc (by decide), nw_nc (by decide), nw_nc (by decide), up_nc (by decide), hPl.1 1 3 (by decide) (by decide)]
    try simp only [scM, roM, teM, asM, paM, coM, plM]
    rw [up_nc (by decide), up_nc (by decide), up_nc (by decide), up_nc (by decide), nw_nc (by decide), up_nc (by decide), nw_nc (by decide), nw_nc (by decide), up_nc (by decide), nw_nc (by decide), up_nc (by decide), up_nc (by decide), nw_nc (by decide), up_nc (by decide), nw_nc (by decide), up_nc (by decide), nw_nc (by decide), up_nc (by decide), nw_nc (by decide), nw_nc (by decide), up_nc (by decide), up_nc (by decide), nw_nc (by decide), up_nc (by decide), nw_nc (by decide), up_nc (by decide), nw_nc (by decide), up_nc (by decide), nw_nc (by decide), nw_nc (by decide), up_nc (by decide), up_eq]
  · show (up (asM (coM (nw (nw (up Mp 0 4 17) 81) 82))) 0 5 81) 6 0 = 7
    try simp only [scM, roM, teM, asM, paM, coM, plM]
    rw [up_nc (by decide), up_nc (by decide), up_nc (by decide), up_nc (by decide), nw_nc (by decide), up_nc (by decide), up_nc (by decide), nw_nc (by decide), up_nc (by decide), nw_nc (by decide), up_nc (by decide), nw_nc (by decide), nw_nc (by decide), up_nc (by decide), up_nc (by decide), nw_nc (by decide), nw_nc (by decide), up_nc (by decide), hPl.1 6 0 (by decide) (by decide)]
    try simp only [scM, roM, teM, asM, paM, coM, plM]
    rw [up_nc (by decide), up_nc (by decide), up_nc (by decide), up_nc (by decide), nw_nc (by decide), up_nc (by decide), nw_nc (by decide), nw_nc (by decide), up_nc (by decide), nw_nc (by decide), up_nc (by decide), up_nc (by decide), nw_nc (by decide), up_nc (by decide), nw_nc (by decide), up_nc (by decide), nw_nc (by decide), up_nc (by decide), nw_nc (by decide), nw_nc (by decide), up_nc (by decide), up_nk (by decide), nw_nc (by decide), up_nk (by decide), nw_nc (by decide), up_nk (by decide), nw_nc (by decide), up_eq]
  · show (up (asM (coM (nw (nw (up Mp 0 4 17) 81) 82))) 0 5 81) 6 1 = 8
    try simp only [scM, roM, teM, asM, paM, coM, plM]
    rw [up_nc (by decide), up_nc (by decide), up_nc (by decide), up_nc (by decide), nw_nc (by decide), up_nc (by decide), up_nc (by decide), nw_nc (by decide), up_nc (by decide), nw_nc (by decide), up_nc (by decide), nw_nc (by decide), nw_nc (by decide), up_nc (by decide), up_nc (by decide), nw_nc (by decide), nw_nc (by decide), up_nc (by decide), hPl.1 6 1 (by decide) (by decide)]
    try simp only [scM, roM, teM, asM, paM, coM, plM]
    rw [up_nc (by decide), up_nc (by decide), up_nc (by decide), up_nc (by decide), nw_nc (by decide), up_nc (by decide), nw_nc (by decide), nw_nc (by decide), up_nc (by decide), nw_nc (by decide), up_nc (by decide), up_nc (by decide), nw_nc (by decide), up_nc (by decide), nw_nc (by decide), up_nc (by decide), nw_nc (by decide), up_nc (by decide), nw_nc (by decide), nw_nc (by decide), up_nc (by decide), up_nk (by decide), nw_nc (by decide), up_nk (by decide), nw_nc (by decide), up_eq]
  · show (up (asM (coM (nw (nw (up Mp 0 4 17) 81) 82))) 0 5 81) 6 2 = 9
    try simp only [scM, roM, teM, asM, paM, coM, plM]
    rw [up_nc (by decide), up_nc (by decide), up_nc (by decide), up_nc (by decide), nw_nc (by decide), up_nc (by decide), up_nc (by decide), nw_nc (by decide), up_nc (by decide), nw_nc (by decide), up_nc (by decide), nw_nc (by decide), nw_nc (by decide), up_nc (by decide), up_nc (by decide), nw_nc (by decide), nw_nc (by decide), up_nc (by decide), hPl.1 6 2 (by decide) (by decide)]
    try simp only [scM, roM, teM, asM, paM, coM, plM]
    rw [up_nc (by decide), up_nc (by decide), up_nc (by decide), up_nc (by decide), nw_nc (by decide), up_nc (by decide), nw_nc (by decide), nw_nc (by decide), up_nc (by decide), nw_nc (by decide), up_nc (by decide), up_nc (by decide), nw_nc (by decide), up_nc (by decide), nw_nc (by decide), up_nc (by decide), nw_nc (by decide), up_nc (by decide), nw_nc (by decide), nw_nc (by decide), up_nc (by decide), up_nk (by decide), nw_nc (by decide), up_eq]
  · show (up (asM (coM (nw (nw (up Mp 0 4 17) 81) 82))) 0 5 81) 6 3 = 10
    try simp only [scM, roM, teM, asM, paM, coM, plM]
    rw [up_nc (by decide), up_nc (by decide), up_nc (by decide), up_nc (by decide), nw_nc (by decide), up_nc (by decide), up_nc (by decide), nw_nc (by decide), up_nc (by decide), nw_nc (by decide), up_nc (by decide), nw_nc (by decide), nw_nc (by decide), up_nc (by decide), up_nc (by decide), nw_nc (by decide), nw_nc (by decide), up_nc (by decide), hPl.1 6 3 (by decide) (by decide)]
    try simp only [scM, roM, teM, asM, paM, coM, plM]
    rw [up_nc (by decide), up_nc (by decide), up_nc (by decide), up_nc (by decide), nw_nc (by decide), up_nc (by decide), nw_nc (by decide), nw_nc (by decide), up_nc (by decide), nw_nc (by decide), up_nc (by decide), up_nc (by decide), nw_nc (by decide), up_nc (by decide), nw_nc (by decide), up_nc (by decide), nw_nc (by decide), up_nc (by decide), nw_nc (by decide), nw_nc (by decide), up_nc (by decide), up_eq]
  · show (up (asM (coM (nw (nw (up Mp 0 4 17) 81) 82))) 0 5 81) 11 0 = 12
    try simp only [scM, roM, teM, asM, paM, coM, plM]
    rw [up_nc (by decide), up_nc (by decide), up_nc (by decide), up_nc (by decide), nw_nc (by decide), up_nc (by decide), up_nc (by decide), nw_nc (by decide), up_nc (by decide), nw_nc (by decide), up_nc (by decide), nw_nc (by decide), nw_nc (by decide), up_nc (by decide), up_nc (by decide), nw_nc (by decide), nw_nc (by decide), up_nc (by decide), hPl.1 11 0 (by decide) (by decide)]
    try simp only [scM, roM, teM, asM, paM, coM, plM]
    rw [up_nc (by decide), up_nc (by decide), up_nc (by decide), up_nc (by decide), nw_nc (by decide), up_nc (by decide), nw_nc (by decide), nw_nc (by decide), up_nc (by decide), nw_nc (by decide), up_nc (by decide), up_nk (by decide), nw_nc (by decide), up_nk (by decide), nw_nc (by decide), up_nk (by decide), nw_nc (by decide), up_eq]
  · show (up (asM (coM (nw (nw (up Mp 0 4 17) 81) 82))) 0 5 81) 11 1 = 13
    try simp only [scM, roM, teM, asM, paM, coM, plM]
    rw [up_nc (by decide), up_nc (by decide), up_nc (by decide), up_nc (by decide), nw_nc (by decide), up_nc (by decide), up_nc (by decide), nw_nc (by decide), up_nc (by decide), nw_nc (by decide), up_nc (by decide), nw_nc (by decide), nw_nc (by decide), up_nc (by decide), up_nc (by decide), nw_nc (by decide), nw_nc (by decide), up_nc (by decide), hPl.1 11 1 (by decide) (by decide)]
    try simp only [scM, roM, teM, asM, paM, coM, plM]
    rw [up_nc (by decide), up_nc (by decide), up_nc (by decide), up_nc (by decide), nw_nc (by decide), up_nc (by decide), nw_nc (by decide), nw_nc (by decide), up_nc (by decide), nw_nc (by decide), up_nc (by decide), up_nk (by decide), nw_nc (by decide), up_nk (by decide), nw_nc (by decide), up_eq]
  · show (up (asM (coM (nw (nw (up Mp 0 4 17) 81) 82))) 0 5 81) 11 2 = 14
    try simp only [scM, roM, teM, asM, paM, coM, plM]
    rw [up_nc (by decide), up_nc (by decide), up_nc (by decide), up_nc (by decide), nw_nc (by decide), up_nc (by decide), up_nc (by decide), nw_nc (by decide), up_nc (by decide), nw_nc (by decide), up_nc (by decide), nw_nc (by decide), nw_nc (by decide), up_nc (by decide), up_nc (by decide), nw_nc (by decide), nw_nc (by decide), up_nc (by decide), hPl.1 11 2 (by decide) (by decide)]
    try simp only [scM, roM, teM, asM, paM, coM, plM]
    rw [up_nc (by decide), up_nc (by decide), up_nc (by decide), up_nc (by decide), nw_nc (by decide), up_nc (by decide), nw_nc (by decide), nw_nc (by decide), up_nc (by decide), nw_nc (by decide), up_nc (by decide), up_nk (by decide), nw_nc (by decide), up_eq]
  · show (up (asM (coM (nw (nw (up Mp 0 4 17) 81) 82))) 0 5 81) 11 3 = 15
    try simp only [scM, roM, teM, asM, paM, coM, plM]
    rw [up_nc (by decide), up_nc (by decide), up_nc (by decide), up_nc (by decide), nw_nc (by decide), up_nc (by decide), up_nc (by decide), nw_nc (by decide), up_nc (by decide), nw_nc (by decide), up_nc (by decide), nw_nc (by decide), nw_nc (by decide), up_nc (by decide), up_nc (by decide), nw_nc (by decide), nw_nc (by decide), up_nc (by decide), hPl.1 11 3 (by decide) (by decide)]
    try simp only [scM, roM, teM, asM, paM, coM, plM]
    rw [up_nc (by decide), up_nc (by decide), up_nc (by decide), up_nc (by decide), nw_nc (by decide), up_nc (by decide), nw_nc (by decide), nw_nc (by decide), up_nc (by decide), nw_nc (by decide), up_nc (by decide), up_eq]
  · show (up (asM (coM (nw (nw (up Mp 0 4 17) 81) 82))) 0 5 81) 17 0 = 1
    try simp only [scM, roM, teM, asM, paM, coM, plM]
    rw [up_nc (by decide), up_nc (by decide), up_nc (by decide), up_nc (by decide), nw_nc (by decide), up_nc (by decide), up_nc (by decide), nw_nc (by decide), up_nc (by decide), nw_nc (by decide), up_nc (by decide), nw_nc (by decide), nw_nc (by decide), up_nc (by decide), up_nc (by decide), nw_nc (by decide), nw_nc (by decide), up_nc (by decide), hPl.1 17 0 (by decide) (by decide)]
    try simp only [scM, roM, teM, asM, paM, coM, plM]
    rw [up_nk (by decide), up_eq]
  · show (up (asM (coM (nw (nw (up Mp 0 4 17) 81) 82))) 0 5 81) 17 1 = 11
    try simp only [scM, roM, teM, asM, paM, coM, plM]
    rw [up_nc (by decide), up_nc (by decide), up_nc (by decide), up_nc (by decide), nw_nc (by decide), up_nc (by decide), up_nc (by decide), nw_nc (by decide), up_nc (by decide), nw_nc (by decide), up_nc (by decide), nw_nc (by decide), nw_nc (by decide), up_nc (by decide), up_nc (by decide), nw_nc (by decide), nw_nc (by decide), up_nc (by decide), hPl.1 17 1 (by decide) (by decide)]
    try simp only [scM, roM, teM, asM, paM, coM, plM]
    rw [up_eq]
  · show (up (asM (coM (nw (nw (up Mp 0 4 17) 81) 82))) 0 5 81) 17 2 = 18
    try simp only [scM, roM, teM, asM, paM, coM, plM]
    rw [up_nc (by decide), up_nc (by decide), up_nc (by decide), up_nc (by decide), nw_nc (by decide), up_nc (by decide), up_nc (by decide), nw_nc (by decide), up_nc (by decide), nw_nc (by decide), up_nc (by decide), nw_nc (by decide), nw_nc (by decide), up_nc (by decide), up_nc (by decide), nw_nc (by decide), nw_nc (by decide), up_nc (by decide), hPl.1 17 2 (by decide) (by decide)]
    try simp only [scM, roM, teM, asM, paM, coM, plM]
    rw [up_nk (by decide), up_nk (by decide), up_nk (by decide), up_nk (by decide), nw_nc (by decide), up_eq]
  · show (up (asM (coM (nw (nw (up Mp 0 4 17) 81) 82))) 0 5 81) 17 3 = 19
    try simp only [scM, roM, teM, asM, paM, coM, plM]
    rw [up_nc (by decide), up_nc (by decide), up_nc (by decide), up_nc (by decide), nw_nc (by decide), up_nc (by decide), up_nc (by decide), nw_nc (by decide), up_nc (by decide), nw_nc (by decide), up_nc (by decide), nw_nc (by decide), nw_nc (by decide), up_nc (by decide), up_nc (by decide), nw_nc (by decide), nw_nc (by decide), up_nc (by decide), hPl.1 17 3 (by decide) (by decide)]
    try simp only [scM, roM, teM, asM, paM, coM, plM]
    rw [up_nk (by decide), up_nk (by decide), up_nk (by decide), up_eq]
  · show (up (asM (coM (nw (nw (up Mp 0 4 17) 81) 82))) 0 5 81) 81 0 = 6
    try simp only [scM, roM, teM, asM, paM, coM, plM]
    rw [up_nc (by decide), up_nk (by decide), up_eq]
  · show (up (asM (coM (nw (nw (up Mp 0 4 17) 81) 82))) 0 5 81) 81 1 = 82
    try simp only [scM, roM, teM, asM, paM, coM, plM]
    rw [up_nc (by decide), up_eq]
  · show (up (asM (coM (nw (nw (up Mp 0 4 17) 81) 82))) 0 5 81) 81 2 = 83
    try simp only [scM, roM, teM, asM, paM, coM, plM]
    rw [up_nc (by decide), up_nk (by decide), up_nk (by decide), up_nk (by decide), nw_nc (by decide), up_eq]
  · show (up (asM (coM (nw (nw (up Mp 0 4 17) 81) 82))) 0 5 81) 81 3 = 87
    try simp only [scM, roM, teM, asM, paM, coM, plM]
    rw [up_nc (by decide), up_nk (by decide), up_nk (by decide), up_eq]
  · show (up (asM (coM (nw (nw (up Mp 0 4 17) 81) 82))) 0 5 81) 82 0 = 17
    try simp only [scM, roM, teM, asM, paM, coM, plM]
    rw [up_nc (by decide), up_nc (by decide), up_nc (by decide), up_nc (by decide), nw_nc (by decide), up_nc (by decide), up_nc (by decide), nw_nc (by decide), up_nc (by decide), nw_nc (by decide), up_nc (by decide), nw_nc (by decide), nw_nc (by decide), up_nk (by decide), up_eq]
  · show (up (asM (coM (nw (nw (up Mp 0 4 17) 81) 82))) 0 5 81) 82 1 = 16
    try simp only [scM, roM, teM, asM, paM, coM, plM]
    rw [up_nc (by decide), up_nc (by decide), up_nc (by decide), up_nc (by decide), nw_nc (by decide), up_nc (by decide), up_nc (by decide), nw_nc (by decide), up_nc (by decide), nw_nc (by decide), up_nc (by decide), nw_nc (by decide), nw_nc (by decide), up_eq]
  · show (up (asM (coM (nw (nw (up Mp 0 4 17) 81) 82))) 0 5 81) 83 0 = 84
    try simp only [scM, roM, teM, asM, paM, coM, plM]
    rw [up_nc (by decide), up_nc (by decide), up_nc (by decide), up_nc (by decide), nw_nc (by decide), up_nc (by decide), up_nk (by decide), nw_nc (by decide), up_nk (by decide), nw_nc (by decide), up_eq]
  · show (up (asM (coM (nw (nw (up Mp 0 4 17) 81) 82))) 0 5 81) 83 1 = 85
    try simp only [scM, roM, teM, asM, paM, coM, plM]
    rw [up_nc (by decide), up_nc (by decide), up_nc (by decide), up_nc (by decide), nw_nc (by decide), up_nc (by decide), up_nk (by decide), nw_nc (by decide), up_eq]
  · show (up (asM (coM (nw (nw (up Mp 0 4 17) 81) 82))) 0 5 81) 83 2 = 86
    try simp only [scM, roM, teM, asM, paM, coM, plM]
    rw [up_nc (by decide), up_nc (by decide), up_nc (by decide), up_nc (by decide), nw_nc (by decide), up_nc (by decide), up_eq]
  · show (up (asM (coM (nw (nw (up Mp 0 4 17) 81) 82))) 0 5 81) 1 4 = 0
    try simp only [scM, roM, teM, asM, paM, coM, plM]
    rw [up_nc (by decide), up_nc (by decide), up_nc (by decide), up_nc (by decide), nw_nc (by decide), up_nc (by decide), up_nc (by decide), nw_nc (by decide), up_nc (by decide), nw_nc (by decide), up_nc (by decide), nw_nc (by decide), nw_nc (by decide), up_nc (by decide), up_nc (by decide), nw_nc (by decide), nw_nc (by decide), up_nc (by decide), hPl.1 1 4 (by decide) (by decide)]
    try simp only [scM, roM, teM, asM, paM, coM, plM]
    rw [up_nc (by decide), up_nc (by decide), up_nc (by decide), up_nc (by decide), nw_nc (by decide), up_nc (by decide), nw_nc (by decide), nw_nc (by decide), up_nc (by decide), nw_nc (by decide), up_nc (by decide), up_nc (by decide), nw_nc (by decide), up_nc (by decide), nw_nc (by decide), up_nc (by decide), nw_nc (by decide), up_nc (by decide), nw_nc (by decide), nw_nc (by decide), up_nc (by decide), up_nc (by decide), nw_nc (by decide), up_nc (by decide), nw_nc (by decide), up_nc (by decide), nw_nc (by decide), up_nc (by decide), nw_nc (by decide), nw_nc (by decide), up_nc (by decide), up_nk (by decide), nw_nc (by decide), up_nk (by decide), nw_nc (by decide), up_nk (by decide), nw_nc (by decide), up_nk (by decide), nw_nc (by decide), nw_0 (by decide +kernel)]
  · show (up (asM (coM (nw (nw (up Mp 0 4 17) 81) 82))) 0 5 81) 6 4 = 0
    try simp only [scM, roM, teM, asM, paM, coM, plM]
    rw [up_nc (by decide), up_nc (by decide), up_nc (by decide), up_nc (by decide), nw_nc (by decide), up_nc (by decide), up_nc (by decide), nw_nc (by decide), up_nc (by decide), nw_nc (by decide), up_nc (by decide), nw_nc (by decide), nw_nc (by decide), up_nc (by decide), up_nc (by decide), nw_nc (by decide), nw_nc (by decide), up_nc (by decide), hPl.1 6 4 (by decide) (by decide)]
    try simp only [scM, roM, teM, asM, paM, coM, plM]
    rw [up_nc (by decide), up_nc (by decide), up_nc (by decide), up_nc (by decide), nw_nc (by decide), up_nc (by decide), nw_nc (by decide), nw_nc (by decide), up_nc (by decide), nw_nc (by decide), up_nc (by decide), up_nc (by decide), nw_nc (by decide), up_nc (by decide), nw_nc (by decide), up_nc (by decide), nw_nc (by decide), up_nc (by decide), nw_nc (by decide), nw_nc (by decide), up_nc (by decide), up_nk (by decide), nw_nc (by decide), up_nk (by decide), nw_nc (by decide), up_nk (by decide), nw_nc (by decide), up_nk (by decide), nw_nc (by decide), nw_0 (by decide +kernel)]
  · show (up (asM (coM (nw (nw (up Mp 0 4 17) 81) 82))) 0 5 81) 17 5 = -1
    try simp only [scM, roM, teM, asM, paM, coM, plM]
    rw [up_nc (by decide), up_nc (by decide), up_nc (by decide), up_nc (by decide), nw_nc (by decide), up_nc (by decide), up_nc (by decide), nw_nc (by decide), up_nc (by decide), nw_nc (by decide), up_nc (by decide), nw_nc (by decide), nw_nc (by decide), up_nc (by decide), up_nc (by decide), nw_nc (by decide), nw_nc (by decide), up_nc (by decide), hPl.1 17 5 (by decide) (by decide)]
    try simp only [scM, roM, teM, asM, paM, coM, plM]
    rw [up_nk (by decide), up_nk (by decide), up_eq]
  · show (up (asM (coM (nw (nw (up Mp 0 4 17) 81) 82))) 0 5 81) 81 4 = 0
    try simp only [scM, roM, teM, asM, paM, coM, plM]
    rw [up_nc (by decide), up_nk (by decide), up_nk (by decide), up_nk (by decide), nw_nc (by decide), up_nk (by decide), up_nc (by decide), nw_nc (by decide), up_nc (by decide), nw_nc (by decide), up_nc (by decide), nw_nc (by decide), nw_nc (by decide), up_nc (by decide), up_nc (by decide), nw_nc (by decide), nw_0 (by decide +kernel)]
  · show (up (asM (coM (nw (nw (up Mp 0 4 17) 81) 82))) 0 5 81) 81 5 = 0
    try simp only [scM, roM, teM, asM, paM, coM, plM]
    rw [up_nc (by decide), up_nk (by decide), up_nk (by decide), up_nk (by decide), nw_nc (by decide), up_nk (by decide), up_nc (by decide), nw_nc (by decide), up_nc (by decide), nw_nc (by decide), up_nc (by decide), nw_nc (by decide), nw_nc (by decide), up_nc (by decide), up_nc (by decide), nw_nc (by decide), nw_0 (by decide +kernel)]
  · show (up (asM (coM (nw (nw (up Mp 0 4 17) 81) 82))) 0 5 81) 81 6 = 0
    try simp only [scM, roM, teM, asM, paM, coM, plM]
    rw [up_nc (by decide), up_nk (by decide), up_nk (by decide), up_nk (by decide), nw_nc (by decide), up_nk (by decide), up_nc (by decide), nw_nc (by decide), up_nc (by decide), nw_nc (by decide), up_nc (by decide), nw_nc (by decide), nw_nc (by decide), up_nc (by decide), up_nc (by decide), nw_nc (by decide), nw_0 (by decide +kernel)]
  · show (up (asM (coM (nw (nw (up Mp 0 4 17) 81) 82))) 0 5 81) 83 3 = 0
    try simp only [scM, roM, teM, asM, paM, coM, plM]
    rw [up_nc (by decide), up_nc (by decide), up_nc (by decide), up_nc (by decide), nw_nc (by decide), up_nc (by decide), up_nk (by decide), nw_nc (by decide), up_nk (by decide), nw_nc (by decide), up_nk (by decide), nw_nc (by decide), nw_0 (by decide +kernel)]
  · show (up (asM (coM (nw (nw (up Mp 0 4 17) 81) 82))) 0 5 81) 83 4 = 0
    try simp only [scM, roM, teM, asM, paM, coM, plM]
    rw [up_nc (by decide), up_nc (by decide), up_nc (by decide), up_nc (by decide), nw_nc (by decide), up_nc (by decide), up_nk (by decide), nw_nc (by decide), up_nk (by decide), nw_nc (by decide), up_nk (by decide), nw_nc (by decide), nw_0 (by decide +kernel)]
  · show (up (asM (coM (nw (nw (up Mp 0 4 17) 81) 82))) 0 5 81) 2 k = 0
    try simp only [scM, roM, teM, asM, paM, coM, plM]
    rw [up_nc (by decide), up_nc (by decide), up_nc (by decide), up_nc (by decide), nw_nc (by decide), up_nc (by decide), up_nc (by decide), nw_nc (by decide), up_nc (by decide), nw_nc (by decide), up_nc (by decide), nw_nc (by decide), nw_nc (by decide), up_nc (by decide), up_nc (by decide), nw_nc (by decide), nw_nc (by decide), up_nc (by decide), hPl.1 2 k (by decide) (by decide)]
    try simp only [scM, roM, teM, asM, paM, coM, plM]
    rw [up_nc (by decide), up_nc (by decide), up_nc (by decide), up_nc (by decide), nw_nc (by decide), up_nc (by decide), nw_nc (by decide), nw_nc (by decide), up_nc (by decide), nw_nc (by decide), up_nc (by decide), up_nc (by decide), nw_nc (by decide), up_nc (by decide), nw_nc (by decide), up_nc (by decide), nw_nc (by decide), up_nc (by decide), nw_nc (by decide), nw_nc (by decide), up_nc (by decide), up_nc (by decide), nw_nc (by decide), up_nc (by decide), nw_nc (by decide), up_nc (by decide), nw_nc (by decide), up_nc (by decide), nw_nc (by decide), nw_nc (by decide), up_nc (by decide), up_nc (by decide), nw_nc (by decide), up_nc (by decide), nw_nc (by decide), up_nc (by decide), nw_nc (by decide), up_nc (by decide), nw_a ly_2 (by decide)]
  · show (up (asM (coM (nw (nw (up Mp 0 4 17) 81) 82))) 0 5 81) 3 k = 0
    try simp only [scM, roM, teM, asM, paM, coM, plM]
    rw [up_nc (by decide), up_nc (by decide), up_nc (by decide), up_nc (by decide), nw_nc (by decide), up_nc (by decide), up_nc (by decide), nw_nc (by decide), up_nc (by decide), nw_nc (by decide), up_nc (by decide), nw_nc (by decide), nw_nc (by decide), up_nc (by decide), up_nc (by decide), nw_nc (by decide), nw_nc (by decide), up_nc (by decide), hPl.1 3 k (by decide) (by decide)]
    try simp only [scM, roM, teM, asM, paM, coM, plM]
    rw [up_nc (by decide), up_nc (by decide), up_nc (by decide), up_nc (by decide), nw_nc (by decide), up_nc (by decide), nw_nc (by decide), nw_nc (by decide), up_nc (by decide), nw_nc (by decide), up_nc (by decide), up_nc (by decide), nw_nc (by decide), up_nc (by decide), nw_nc (by decide), up_nc (by decide), nw_nc (by decide), up_nc (by decide), nw_nc (by decide), nw_nc (by decide), up_nc (by decide), up_nc (by decide), nw_nc (by decide), up_nc (by decide), nw_nc (by decide), up_nc (by decide), nw_nc (by decide), up_nc (by decide), nw_nc (by decide), nw_nc (by decide), up_nc (by decide), up_nc (by decide), nw_nc (by decide), up_nc (by decide), nw_nc (by decide), up_nc (by decide), nw_a ly_3 (by decide)]
  · show (up (asM (coM (nw (nw (up Mp 0 4 17) 81) 82))) 0 5 81) 4 k = 0
    try simp only [scM, roM, teM, asM, paM, coM, plM]
    rw [up_nc (by decide), up_nc (by decide), up_nc (by decide), up_nc (by decide), nw_nc (by decide), up_nc (by decide), up_nc (by decide), nw_nc (by decide), up_nc (by decide), nw_nc (by decide), up_nc (by decide), nw_nc (by decide), nw_nc (by decide), up_nc (by decide), up_nc (by decide), nw_nc (by decide), nw_nc (by decide), up_nc (by decide), hPl.1 4 k (by decide) (by decide)]
    try simp only [scM, roM, teM, asM, paM, coM, plM]
    rw [up_nc (by decide), up_nc (by decide), up_nc (by decide), up_nc (by decide), nw_nc (by decide), up_nc (by decide), nw_nc (by decide), nw_nc (by decide), up_nc (by decide), nw_nc (by decide), up_nc (by decide), up_nc (by decide), nw_nc (by decide), up_nc (by decide), nw_nc (by decide), up_nc (by decide), nw_nc (by decide), up_nc (by decide), nw_nc (by decide), nw_nc (by decide), up_nc (by decide), up_nc (by decide), nw_nc (by decide), up_nc (by decide), nw_nc (by decide), up_nc (by decide), nw_nc (by decide), up_nc (by decide), nw_nc (by decide), nw_nc (by decide), up_nc (by decide), up_nc (by decide), nw_nc (by decide), up_nc (by decide), nw_a ly_4 (by decide)]
  · show (up (asM (coM (nw (nw (up Mp 0 4 17) 81) 82))) 0 5 81) 5 k = 0
    try simp only [scM, roM, teM, asM, paM, coM, plM]
    rw [up_nc (by decide), up_nc (by decide), up_nc (by decide), up_nc (by decide), nw_nc (by decide), up_nc (by decide), up_nc (by decide), nw_nc (by decide), up_nc (by decide), nw_nc (by decide), up_nc (by decide), nw_nc (by decide), nw_nc (by decide), up_nc (by decide), up_nc (by decide), nw_nc (by decide), nw_nc (by decide), up_nc (by decide), hPl.1 5 k (by decide) (by decide)]
    try simp only [scM, roM, teM, asM, paM, coM, plM]
    rw [up_nc (by decide), up_nc (by decide), up_nc (by decide), up_nc (by decide), nw_nc (by decide), up_nc (by decide), nw_nc (by decide), nw_nc (by decide), up_nc (by decide), nw_nc (by decide), up_nc (by decide), up_nc (by decide), nw_nc (by decide), up_nc (by decide), nw_nc (by decide), up_nc (by decide), nw_nc (by decide), up_nc (by decide), nw_nc (by decide), nw_nc (by decide), up_nc (by decide), up_nc (by decide), nw_nc (by decide), up_nc (by decide), nw_nc (by decide), up_nc (by decide), nw_nc (by decide), up_nc (by decide), nw_nc (by decide), nw_nc (by decide), up_nc (by decide), up_nc (by decide), nw_a ly_5 (by decide)]
  · show (up (asM (coM (nw (nw (up Mp 0 4 17) 81) 82))) 0 5 81) 7 k = 0
    try simp only [scM, roM, teM, asM, paM, coM, plM]
    rw [up_nc (by decide), up_nc (by decide), up_nc (by decide), up_nc (by decide), nw_nc (by decide), up_nc (by decide), up_nc (by decide), nw_nc (by decide), up_nc (by decide), nw_nc (by decide), up_nc (by decide), nw_nc (by decide), nw_nc (by decide), up_nc (by decide), up_nc (by decide), nw_nc (by decide), nw_nc (by decide), up_nc (by decide), hPl.1 7 k (by decide) (by decide)]
    try simp only [scM, roM, teM, asM, paM, coM, plM]
    rw [up_nc (by decide), up_nc (by decide), up_nc (by decide), up_nc (by decide), nw_nc (by decide), up_nc (by decide), nw_nc (by decide), nw_nc (by decide), up_nc (by decide), nw_nc (by decide), up_nc (by decide), up_nc (by decide), nw_nc (by decide), up_nc (by decide), nw_nc (by decide), up_nc (by decide), nw_nc (by decide), up_nc (by decide), nw_nc (by decide), nw_nc (by decide), up_nc (by decide), up_nc (by decide), nw_nc (by decide), up_nc (by decide), nw_nc (by decide), up_nc (by decide), nw_nc (by decide), up_nc (by decide), nw_a ly_7 (by decide)]
  · show (up (asM (coM (nw (nw (up Mp 0 4 17) 81) 82))) 0 5 81) 8 k = 0
    try simp only [scM, roM, teM, asM, paM, coM, plM]
    rw [up_nc (by decide), up_nc (by decide), up_nc (by decide), up_nc (by decide), nw_nc (by decide), up_nc (by decide), up_nc (by decide), nw_nc (by decide), up_nc (by decide), nw_nc (by decide), up_nc (by decide), nw_nc (by decide), nw_nc (by decide), up_nc (by decide), up_nc (by decide), nw_nc (by decide), nw_nc (by decide), up_nc (by decide), hPl.1 8 k (by decide) (by decide)]
    try simp only [scM, roM, teM, asM, paM, coM, plM]
    rw [up_nc (by decide), up_nc (by decide), up_nc (by decide), up_nc (by decide), nw_nc (by decide), up_nc (by decide), nw_nc (by decide), nw_nc (by decide), up_nc (by decide), nw_nc (by decide), up_nc (by decide), up_nc (by decide), nw_nc (by decide), up_nc (by decide), nw_nc (by decide), up_nc (by decide), nw_nc (by decide), up_nc (by decide), nw_nc (by decide), nw_nc (by decide), up_nc (by decide), up_nc (by decide), nw_nc (by decide), up_nc (by decide), nw_nc (by decide), up_nc (by decide), nw_a ly_8 (by decide)]
  · show (up (asM (coM (nw (nw (up Mp 0 4 17) 81) 82))) 0 5 81) 9 k = 0
    try simp only [scM, roM, teM, asM, paM, coM, plM]
    rw [up_nc (by decide), up_nc (by decide), up_nc (by decide), up_nc (by decide), nw_nc (by decide), up_nc (by decide), up_nc (by decide), nw_nc (by decide), up_nc (by decide), nw_nc (by decide), up_nc (by decide), nw_nc (by decide), nw_nc (by decide), up_nc (by decide), up_nc (by decide), nw_nc (by decide), nw_nc (by decide), up_nc (by decide), hPl.1 9 k (by decide) (by decide)]
    try simp only [scM, roM, teM, asM, paM, coM, plM]
    rw [up_nc (by decide), up_nc (by decide), up_nc (by decide), up_nc (by decide), nw_nc (by decide), up_nc (by decide), nw_nc (by decide), nw_nc (by decide), up_nc (by decide), nw_nc (by decide), up_nc (by decide), up_nc (by decide), nw_nc (by decide), up_nc (by decide), nw_nc (by decide), up_nc (by decide), nw_nc (by decide), up_nc (by decide), nw_nc (by decide), nw_nc (by decide), up_nc (by decide), up_nc (by decide), nw_nc (by decide), up_nc (by decide), nw_a ly_9 (by decide)]
  · show (up (asM (coM (nw (nw (up Mp 0 4 17) 81) 82))) 0 5 81) 10 k = 0
    try simp only [scM, roM, teM, asM, paM, coM, plM]
    rw [up_nc (by decide), up_nc (by decide), up_nc (by decide), up_nc (by decide), nw_nc (by decide), up_nc (by decide), up_nc (by decide), nw_nc (by decide), up_nc (by decide), nw_nc (by decide), up_nc (by decide), nw_nc (by decide), nw_nc (by decide), up_nc (by decide), up_nc (by decide), nw_nc (by decide), nw_nc (by decide), up_nc (by decide), hPl.1 10 k (by decide) (by decide)]
    try simp only [scM, roM, teM, asM, paM, coM, plM]
    rw [up_nc (by decide), up_nc (by decide), up_nc (by decide), up_nc (by decide), nw_nc (by decide), up_nc (by decide), nw_nc (by decide), nw_nc (by decide), up_nc (by decide), nw_nc (by decide), up_nc (by decide), up_nc (by decide), nw_nc (by decide), up_nc (by decide), nw_nc (by decide), up_nc (by decide), nw_nc (by decide), up_nc (by decide), nw_nc (by decide), nw_nc (by decide), up_nc (by decide), up_nc (by decide), nw_a ly_10 (by decide)]
  · show (up (asM (coM (nw (nw (up Mp 0 4 17) 81) 82))) 0 5 81) 12 k = 0
    try simp only [scM, roM, teM, asM, paM, coM, plM]
    rw [up_nc (by decide), up_nc (by decide), up_nc (by decide), up_nc (by decide), nw_nc (by decide), up_nc (by decide), up_nc (by decide), nw_nc (by decide), up_nc (by decide), nw_nc (by decide), up_nc (by decide), nw_nc (by decide), nw_nc (by decide), up_nc (by decide), up_nc (by decide), nw_nc (by decide), nw_nc (by decide), up_nc (by decide), hPl.1 12 k (by decide) (by decide)]
    try simp only [scM, roM, teM, asM, paM, coM, plM]
    rw [up_nc (by decide), up_nc (by decide), up_nc (by decide), up_nc (by decide), nw_nc (by decide), up_nc (by decide), nw_nc (by decide), nw_nc (by decide), up_nc (by decide), nw_nc (by decide), up_nc (by decide), up_nc (by decide), nw_nc (by decide), up_nc (by decide), nw_nc (by decide), up_nc (by decide), nw_nc (by decide), up_nc (by decide), nw_a ly_12 (by decide)]
  · show (up (asM (coM (nw (nw (up Mp 0 4 17) 81) 82))) 0 5 81) 13 k = 0
    try simp only [scM, roM, teM, asM, paM, coM, plM]
    rw [up_nc (by decide), up_nc (by decide), up_nc (by decide), up_nc (by decide), nw_nc (by decide), up_nc (by decide), up_nc (by decide), nw_nc (by decide), up_nc (by decide), nw_nc (by decide), up_nc (by decide), nw_nc (by decide), nw_nc (by decide), up_nc (by decide), up_nc (by decide), nw_nc (by decide), nw_nc (by decide), up_nc (by decide), hPl.1 13 k (by decide) (by decide)]
    try simp only [scM, roM, teM, asM, paM, coM, plM]
    rw [up_nc (by decide), up_nc (by decide), up_nc (by decide), up_nc (by decide), nw_nc (by decide), up_nc (by decide), nw_nc (by decide), nw_nc (by decide), up_nc (by decide), nw_nc (by decide), up_nc (by decide), up_nc (by decide), nw_nc (by decide), up_nc (by decide), nw_nc (by decide), up_nc (by decide), nw_a ly_13 (by decide)]
  · show (up (asM (coM (nw (nw (up Mp 0 4 17) 81) 82))) 0 5 81) 14 k = 0
    try simp only [scM, roM, teM, asM, paM, coM, plM]
    rw [up_nc (by decide), up_nc (by decide), up_nc (by decide), up_nc (by decide), nw_nc (by decide), up_nc (by decide), up_nc (by decide), nw_nc (by decide), up_nc (by decide), nw_nc (by decide), up_nc (by decide), nw_nc (by decide), nw_nc (by decide), up_nc (by decide), up_nc (by decide), nw_nc (by decide), nw_nc (by decide), up_nc (by decide), hPl.1 14 k (by decide) (by decide)]
    try simp only [scM, roM, teM, asM, paM, coM, plM]
    rw [up_nc (by decide), up_nc (by decide), up_nc (by decide), up_nc (by decide), nw_nc (by decide), up_nc (by decide), nw_nc (by decide), nw_nc (by decide), up_nc (by decide), nw_nc (by decide), up_nc (by decide), up_nc (by decide), nw_nc (by decide), up_nc (by decide), nw_a ly_14 (by decide)]
  · show (up (asM (coM (nw (nw (up Mp 0 4 17) 81) 82))) 0 5 81) 15 k = 0
    try simp only [scM, roM, teM, asM, paM, coM, plM]
    rw [up_nc (by decide), up_nc (by decide), up_nc (by decide), up_nc (by decide), nw_nc (by decide), up_nc (by decide), up_nc (by decide), nw_nc (by decide), up_nc (by decide), nw_nc (by decide), up_nc (by decide), nw_nc (by decide), nw_nc (by decide), up_nc (by decide), up_nc (by decide), nw_nc (by decide), nw_nc (by decide), up_nc (by decide), hPl.1 15 k (by decide) (by decide)]
    try simp only [scM, roM, teM, asM, paM, coM, plM]
    rw [up_nc (by decide), up_nc (by decide), up_nc (by decide), up_nc (by decide), nw_nc (by decide), up_nc (by decide), nw_nc (by decide), nw_nc (by decide), up_nc (by decide), nw_nc (by decide), up_nc (by decide), up_nc (by decide), nw_a ly_15 (by decide)]
  · show (up (asM (coM (nw (nw (up Mp 0 4 17) 81) 82))) 0 5 81) 16 k = 0
    try simp only [scM, roM, teM, asM, paM, coM, plM]
    rw [up_nc (by decide), up_nc (by decide), up_nc (by decide), up_nc (by decide), nw_nc (by decide), up_nc (by decide), up_nc (by decide), nw_nc (by decide), up_nc (by decide), nw_nc (by decide), up_nc (by decide), nw_nc (by decide), nw_nc (by decide), up_nc (by decide), up_nc (by decide), nw_nc (by decide), nw_nc (by decide), up_nc (by decide), hPl.1 16 k (by decide) (by decide)]
    try simp only [scM, roM, teM, asM, paM, coM, plM]
    rw [up_nc (by decide), up_nc (by decide), up_nc (by decide), up_nc (by decide), nw_nc (by decide), up_nc (by decide), nw_nc (by decide), nw_nc (by decide), up_nc (by decide), nw_a ly_16 (by decide)]
  · show (up (asM (coM (nw (nw (up Mp 0 4 17) 81) 82))) 0 5 81) 18 i = _ ∧ (up (asM (coM (nw (nw (up Mp 0 4 17) 81) 82))) 0 5 81) (20 + i) 0 = _
    try simp only [scM, roM, teM, asM, paM, coM, plM]
    rw [up_nc (by decide), up_nc (by decide), up_nc (by decide), up_nc (by decide), nw_nc (by decide), up_nc (by decide), up_nc (by decide), nw_nc (by decide), up_nc (by decide), nw_nc (by decide), up_nc (by decide), nw_nc (by decide), nw_nc (by decide), up_nc (by decide), up_nc (by decide), nw_nc (by decide), nw_nc (by decide), up_nc (by decide)]
    rw [up_nc (by omega), up_nc (by omega), up_nc (by omega), up_nc (by omega), nw_nc (by omega), up_nc (by omega), up_nc (by omega), nw_nc (by omega), up_nc (by omega), nw_nc (by omega), up_nc (by omega), nw_nc (by omega), nw_nc (by omega), up_nc (by omega), up_nc (by omega), nw_nc (by omega), nw_nc (by omega), up_nc (by omega)]
    exact hPl.2.1 i i1 i2
  · show (up (asM (coM (nw (nw (up Mp 0 4 17) 81) 82))) 0 5 81) 20 4 = 20
    try simp only [scM, roM, teM, asM, paM, coM, plM]
    rw [up_nc (by decide), up_nc (by decide), up_nc (by decide), up_nc (by decide), nw_nc (by decide), up_nc (by decide), up_nc (by decide), nw_nc (by decide), up_nc (by decide), nw_nc (by decide), up_nc (by decide), nw_nc (by decide), nw_nc (by decide), up_nc (by decide), up_nc (by decide), nw_nc (by decide), nw_nc (by decide), up_nc (by decide)]
    exact hPl.2.2.1
  · show (up (asM (coM (nw (nw (up Mp 0 4 17) 81) 82))) 0 5 81) 20 10 = -1
    try simp only [scM, roM, teM, asM, paM, coM, plM]
    rw [up_nc (by decide), up_nc (by decide), up_nc (by decide), up_nc (by decide), nw_nc (by decide), up_nc (by decide), up_nc (by decide), nw_nc (by decide), up_nc (by decide), nw_nc (by decide), up_nc (by decide), nw_nc (by decide), nw_nc (by decide), up_nc (by decide), up_nc (by decide), nw_nc (by decide), nw_nc (by decide), up_nc (by decide)]
    exact hPl.2.2.2
