theorem dX0_init_0 : decode cX0_init 0 = .ok (.aload_n 0, 1) := by decide +kernel
theorem dX0_init_1 : decode cX0_init 1 = .ok (.invokespecial 3, 3) := by decide +kernel
theorem dX0_init_4 : decode cX0_init 4 = .ok (.aload_n 0, 1) := by decide +kernel
theorem dX0_init_5 : decode cX0_init 5 = .ok (.new 9, 3) := by decide +kernel
theorem dX0_init_8 : decode cX0_init 8 = .ok (.dup, 1) := by decide +kernel
theorem dX0_init_9 : decode cX0_init 9 = .ok (.bipush 8, 2) := by decide +kernel
theorem dX0_init_11 : decode cX0_init 11 = .ok (.invokespecial 11, 3) := by decide +kernel
theorem dX0_init_14 : decode cX0_init 14 = .ok (.putfield 14, 3) := by decide +kernel
theorem dX0_init_17 : decode cX0_init 17 = .ok (.aload_n 0, 1) := by decide +kernel
theorem dX0_init_18 : decode cX0_init 18 = .ok (.new 9, 3) := by decide +kernel
theorem dX0_init_21 : decode cX0_init 21 = .ok (.dup, 1) := by decide +kernel
theorem dX0_init_22 : decode cX0_init 22 = .ok (.iconst 4, 1) := by decide +kernel
theorem dX0_init_23 : decode cX0_init 23 = .ok (.invokespecial 11, 3) := by decide +kernel
theorem dX0_init_26 : decode cX0_init 26 = .ok (.putfield 20, 3) := by decide +kernel
theorem dX0_init_29 : decode cX0_init 29 = .ok (.aload_n 0, 1) := by decide +kernel
theorem dX0_init_30 : decode cX0_init 30 = .ok (.new 23, 3) := by decide +kernel
theorem dX0_init_33 : decode cX0_init 33 = .ok (.dup, 1) := by decide +kernel
theorem dX0_init_34 : decode cX0_init 34 = .ok (.bipush 8, 2) := by decide +kernel
theorem dX0_init_36 : decode cX0_init 36 = .ok (.invokespecial 25, 3) := by decide +kernel
theorem dX0_init_39 : decode cX0_init 39 = .ok (.putfield 26, 3) := by decide +kernel
theorem dX0_init_42 : decode cX0_init 42 = .ok (.aload_n 0, 1) := by decide +kernel
theorem dX0_init_43 : decode cX0_init 43 = .ok (.new 23, 3) := by decide +kernel
theorem dX0_init_46 : decode cX0_init 46 = .ok (.dup, 1) := by decide +kernel
theorem dX0_init_47 : decode cX0_init 47 = .ok (.bipush 8, 2) := by decide +kernel
theorem dX0_init_49 : decode cX0_init 49 = .ok (.invokespecial 25, 3) := by decide +kernel
theorem dX0_init_52 : decode cX0_init 52 = .ok (.putfield 30, 3) := by decide +kernel
theorem dX0_init_55 : decode cX0_init 55 = .ok (.aload_n 0, 1) := by decide +kernel
theorem dX0_init_56 : decode cX0_init 56 = .ok (.sipush 4000, 3) := by decide +kernel
theorem dX0_init_59 : decode cX0_init 59 = .ok (.putfield 33, 3) := by decide +kernel
theorem dX0_init_62 : decode cX0_init 62 = .ok (.aload_n 0, 1) := by decide +kernel
theorem dX0_init_63 : decode cX0_init 63 = .ok (.iconst 5, 1) := by decide +kernel
theorem dX0_init_64 : decode cX0_init 64 = .ok (.putfield 37, 3) := by decide +kernel
theorem dX0_init_67 : decode cX0_init 67 = .ok (.aload_n 0, 1) := by decide +kernel
theorem dX0_init_68 : decode cX0_init 68 = .ok (.bipush 100, 2) := by decide +kernel
theorem dX0_init_70 : decode cX0_init 70 = .ok (.putfield 40, 3) := by decide +kernel
theorem dX0_init_73 : decode cX0_init 73 = .ok (.return_, 1) := by decide +kernel
def fn_X0_init (N : Nat) (M : Mem) (a0 : Nat) : Option (Unit × Mem) :=
  mm_nm M.length (M ++ [.inr (3, [.null, .null, .null, .null, .null])]) fun b1 M2 =>
  mm_b2 (fn_X3_init N M2 b1 8) fun _ M3 =>
  (mm_pV M3 a0 0 0 (.ref b1)).bind fun M4 =>
  mm_nm M4.length (M4 ++ [.inr (3, [.null, .null, .null, .null, .null])]) fun b5 M6 =>
  mm_b2 (fn_X3_init N M6 b5 4) fun _ M7 =>
  (mm_pV M7 a0 0 1 (.ref b5)).bind fun M8 =>
  mm_nm M8.length (M8 ++ [.inr (6, [.null, .int 0])]) fun b9 M10 =>
  mm_b2 (fn_X6_init N M10 b9 8) fun _ M11 =>
  (mm_pV M11 a0 0 2 (.ref b9)).bind fun M12 =>
  mm_nm M12.length (M12 ++ [.inr (6, [.null, .int 0])]) fun b13 M14 =>
  mm_b2 (fn_X6_init N M14 b13 8) fun _ M15 =>
  (mm_pV M15 a0 0 3 (.ref b13)).bind fun M16 =>
  (mm_pV M16 a0 0 4 (.int 4000)).bind fun M17 =>
  (mm_pV M17 a0 0 5 (.int 5)).bind fun M18 =>
  (mm_pV M18 a0 0 6 (.int 100)).bind fun M19 =>
  some ((), M19)
set_option maxRecDepth 100000 in
set_option maxHeartbeats 4000000 in
theorem ct_X0_init {l : Launch} {ω : Wd} {N : Nat} {M : Mem} {a0 : Nat} {r : Unit} {M' : Mem} (h : fn_X0_init N M a0 = some (r, M')) : CM l ω 0 yX0_init cX0_init 1 none 3 26 754 [.ref a0] M none M' := by
  refine CM.of (by decide) (Nat.le_of_ble_eq_true rfl) fun Γ hl C hr hi => ?_
  subst hl
  unfold fn_X0_init at h
  refine jv_aload_n C dX0_init_0 rfl 0 rfl ?_
  refine jv_objInit C gw_172 gw_129 gw_130 (Nat.le_of_ble_eq_true rfl) dX0_init_1 ?_
  refine jv_aload_n C dX0_init_4 rfl 0 rfl ?_
  refine jv_new (ci := 3) (fs := [.null, .null, .null, .null, .null]) (tf := tyX3) C rfl uw_X3 tyX3_ok gw_173 gw_174 gw_96 (fun j hj => nd_X3 ω j hj) (by decide) (by decide) dX0_init_5 ?_
  refine jv_name h (fun b1 M2 h => ?_)
  refine jv_dup C dX0_init_8 rfl ?_
  refine jv_bipush (v := 8) C dX0_init_9 (by decide) ?_
  refine jv_iV (As := [.int 8]) C lk_X0_11 dX0_init_11 rfl rfl (by decide) (by decide) (by decide) (Nat.le_of_ble_eq_true rfl) h (fun _ _ h => ct_X3_init h) (fun _ M3 h => ?_)
  refine jv_putFR C fp_X0_14 hi dX0_init_14 (fun _ => ⟨rfl, rfl⟩) h (fun M4 h => ?_)
  refine jv_aload_n C dX0_init_17 rfl 0 rfl ?_
  refine jv_new (ci := 3) (fs := [.null, .null, .null, .null, .null]) (tf := tyX3) C rfl uw_X3 tyX3_ok gw_173 gw_174 gw_96 (fun j hj => nd_X3 ω j hj) (by decide) (by decide) dX0_init_18 ?_
  refine jv_name h (fun b5 M6 h => ?_)
  refine jv_dup C dX0_init_21 rfl ?_
  refine jv_iconst (v := 4) C dX0_init_22 (by decide) ?_
  refine jv_iV (As := [.int 4]) C lk_X0_11 dX0_init_23 rfl rfl (by decide) (by decide) (by decide) (Nat.le_of_ble_eq_true rfl) h (fun _ _ h => ct_X3_init h) (fun _ M7 h => ?_)
  refine jv_putFR C fp_X0_20 hi dX0_init_26 (fun _ => ⟨rfl, rfl⟩) h (fun M8 h => ?_)
  refine jv_aload_n C dX0_init_29 rfl 0 rfl ?_
  refine jv_new (ci := 6) (fs := [.null, .int 0]) (tf := tyX6) C rfl uw_X6 tyX6_ok gw_225 gw_180 gw_97 (fun j hj => nd_X6 ω j hj) (by decide) (by decide) dX0_init_30 ?_
  refine jv_name h (fun b9 M10 h => ?_)
  refine jv_dup C dX0_init_33 rfl ?_
  refine jv_bipush (v := 8) C dX0_init_34 (by decide) ?_
  refine jv_iV (As := [.int 8]) C lk_X0_25 dX0_init_36 rfl rfl (by decide) (by decide) (by decide) (Nat.le_of_ble_eq_true rfl) h (fun _ _ h => ct_X6_init h) (fun _ M11 h => ?_)
  refine jv_putFR C fp_X0_26 hi dX0_init_39 (fun _ => ⟨rfl, rfl⟩) h (fun M12 h => ?_)
  refine jv_aload_n C dX0_init_42 rfl 0 rfl ?_
  refine jv_new (ci := 6) (fs := [.null, .int 0]) (tf := tyX6) C rfl uw_X6 tyX6_ok gw_225 gw_180 gw_97 (fun j hj => nd_X6 ω j hj) (by decide) (by decide) dX0_init_43 ?_
  refine jv_name h (fun b13 M14 h => ?_)
  refine jv_dup C dX0_init_46 rfl ?_
  refine jv_bipush (v := 8) C dX0_init_47 (by decide) ?_
  refine jv_iV (As := [.int 8]) C lk_X0_25 dX0_init_49 rfl rfl (by decide) (by decide) (by decide) (Nat.le_of_ble_eq_true rfl) h (fun _ _ h => ct_X6_init h) (fun _ M15 h => ?_)
  refine jv_putFR C fp_X0_30 hi dX0_init_52 (fun _ => ⟨rfl, rfl⟩) h (fun M16 h => ?_)
  refine jv_aload_n C dX0_init_55 rfl 0 rfl ?_
  refine jv_sipush (v := 4000) C dX0_init_56 (by decide) ?_
  refine jv_putI C fp_X0_33 dX0_init_59 h (fun M17 h => ?_)
  refine jv_aload_n C dX0_init_62 rfl 0 rfl ?_
  refine jv_iconst (v := 5) C dX0_init_63 (by decide) ?_
  refine jv_putI C fp_X0_37 dX0_init_64 h (fun M18 h => ?_)
  refine jv_aload_n C dX0_init_67 rfl 0 rfl ?_
  refine jv_bipush (v := 100) C dX0_init_68 (by decide) ?_
  refine jv_putI C fp_X0_40 dX0_init_70 h (fun M19 h => ?_)
  exact jv_vret C hr dX0_init_73 h
theorem dX0_reset_0 : decode cX0_reset 0 = .ok (.aload_n 0, 1) := by decide +kernel
theorem dX0_reset_1 : decode cX0_reset 1 = .ok (.getfield 14, 3) := by decide +kernel
theorem dX0_reset_4 : decode cX0_reset 4 = .ok (.invokevirtual 43, 3) := by decide +kernel
theorem dX0_reset_7 : decode cX0_reset 7 = .ok (.aload_n 0, 1) := by decide +kernel
theorem dX0_reset_8 : decode cX0_reset 8 = .ok (.getfield 20, 3) := by decide +kernel
theorem dX0_reset_11 : decode cX0_reset 11 = .ok (.invokevirtual 43, 3) := by decide +kernel
theorem dX0_reset_14 : decode cX0_reset 14 = .ok (.aload_n 0, 1) := by decide +kernel
theorem dX0_reset_15 : decode cX0_reset 15 = .ok (.getfield 26, 3) := by decide +kernel
theorem dX0_reset_18 : decode cX0_reset 18 = .ok (.invokevirtual 46, 3) := by decide +kernel
theorem dX0_reset_21 : decode cX0_reset 21 = .ok (.aload_n 0, 1) := by decide +kernel
theorem dX0_reset_22 : decode cX0_reset 22 = .ok (.getfield 30, 3) := by decide +kernel
theorem dX0_reset_25 : decode cX0_reset 25 = .ok (.invokevirtual 46, 3) := by decide +kernel
theorem dX0_reset_28 : decode cX0_reset 28 = .ok (.aload_n 0, 1) := by decide +kernel
theorem dX0_reset_29 : decode cX0_reset 29 = .ok (.sipush 4000, 3) := by decide +kernel
theorem dX0_reset_32 : decode cX0_reset 32 = .ok (.putfield 33, 3) := by decide +kernel
theorem dX0_reset_35 : decode cX0_reset 35 = .ok (.aload_n 0, 1) := by decide +kernel
theorem dX0_reset_36 : decode cX0_reset 36 = .ok (.iconst 5, 1) := by decide +kernel
theorem dX0_reset_37 : decode cX0_reset 37 = .ok (.putfield 37, 3) := by decide +kernel
theorem dX0_reset_40 : decode cX0_reset 40 = .ok (.aload_n 0, 1) := by decide +kernel
theorem dX0_reset_41 : decode cX0_reset 41 = .ok (.bipush 100, 2) := by decide +kernel
theorem dX0_reset_43 : decode cX0_reset 43 = .ok (.putfield 40, 3) := by decide +kernel
theorem dX0_reset_46 : decode cX0_reset 46 = .ok (.return_, 1) := by decide +kernel
def fn_X0_reset (N : Nat) (M : Mem) (a0 : Nat) : Option (Unit × Mem) :=
  (mm_gR M a0 0 0).bind fun b1 =>
  (mm_ck M b1 3).bind fun _ => mm_b2 (fn_X3_empty N M b1) fun _ M2 =>
  (mm_gR M2 a0 0 1).bind fun b3 =>
  (mm_ck M2 b3 3).bind fun _ => mm_b2 (fn_X3_empty N M2 b3) fun _ M4 =>
  (mm_gR M4 a0 0 2).bind fun b5 =>
  (mm_ck M4 b5 6).bind fun _ => mm_b2 (fn_X6_empty N M4 b5) fun _ M6 =>
  (mm_gR M6 a0 0 3).bind fun b7 =>
  (mm_ck M6 b7 6).bind fun _ => mm_b2 (fn_X6_empty N M6 b7) fun _ M8 =>
  (mm_pV M8 a0 0 4 (.int 4000)).bind fun M9 =>
  (mm_pV M9 a0 0 5 (.int 5)).bind fun M10 =>
  (mm_pV M10 a0 0 6 (.int 100)).bind fun M11 =>
  some ((), M11)
set_option maxRecDepth 100000 in
set_option maxHeartbeats 4000000 in
theorem ct_X0_reset {l : Launch} {ω : Wd} {k N : Nat} {M : Mem} {a0 : Nat} {r : Unit} {M' : Mem} (h : fn_X0_reset N M a0 = some (r, M')) : CM l ω k yX0_reset cX0_reset 1 none 2 0 0 [.ref a0] M none M' := by
  refine CM.of (by decide) (Nat.le_of_ble_eq_true rfl) fun Γ hl C hr hi => ?_
  subst hl
  unfold fn_X0_reset at h
  refine jv_aload_n C dX0_reset_0 rfl 0 rfl ?_
  refine jv_getR C fa_X0_14 dX0_reset_1 h (fun b1 h => ?_)
  refine jv_vV0 (As := []) C lk_X0_43 rfl dX0_reset_4 rfl rfl (by decide) (by decide) (by decide) (Nat.le_of_ble_eq_true rfl) h (fun _ _ h => ct_X3_empty h) (fun _ M2 h => ?_)
  refine jv_aload_n C dX0_reset_7 rfl 0 rfl ?_
  refine jv_getR C fa_X0_20 dX0_reset_8 h (fun b3 h => ?_)
  refine jv_vV0 (As := []) C lk_X0_43 rfl dX0_reset_11 rfl rfl (by decide) (by decide) (by decide) (Nat.le_of_ble_eq_true rfl) h (fun _ _ h => ct_X3_empty h) (fun _ M4 h => ?_)
  refine jv_aload_n C dX0_reset_14 rfl 0 rfl ?_
  refine jv_getR C fa_X0_26 dX0_reset_15 h (fun b5 h => ?_)
  refine jv_vV0 (As := []) C lk_X0_46 rfl dX0_reset_18 rfl rfl (by decide) (by decide) (by decide) (Nat.le_of_ble_eq_true rfl) h (fun _ _ h => ct_X6_empty h) (fun _ M6 h => ?_)
  refine jv_aload_n C dX0_reset_21 rfl 0 rfl ?_
  refine jv_getR C fa_X0_30 dX0_reset_22 h (fun b7 h => ?_)
  refine jv_vV0 (As := []) C lk_X0_46 rfl dX0_reset_25 rfl rfl (by decide) (by decide) (by decide) (Nat.le_of_ble_eq_true rfl) h (fun _ _ h => ct_X6_empty h) (fun _ M8 h => ?_)
  refine jv_aload_n C dX0_reset_28 rfl 0 rfl ?_
  refine jv_sipush (v := 4000) C dX0_reset_29 (by decide) ?_
  refine jv_putI C fp_X0_33 dX0_reset_32 h (fun M9 h => ?_)
  refine jv_aload_n C dX0_reset_35 rfl 0 rfl ?_
  refine jv_iconst (v := 5) C dX0_reset_36 (by decide) ?_
  refine jv_putI C fp_X0_37 dX0_reset_37 h (fun M10 h => ?_)
  refine jv_aload_n C dX0_reset_40 rfl 0 rfl ?_
  refine jv_bipush (v := 100) C dX0_reset_41 (by decide) ?_
  refine jv_putI C fp_X0_40 dX0_reset_43 h (fun M11 h => ?_)
  exact jv_vret C hr dX0_reset_46 h
