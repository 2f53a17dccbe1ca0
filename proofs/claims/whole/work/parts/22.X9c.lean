theorem dX9_score_0 : decode cX9_score 0 = .ok (.aload_n 0, 1) := by decide +kernel
theorem dX9_score_1 : decode cX9_score 1 = .ok (.iload_n 1, 1) := by decide +kernel
theorem dX9_score_2 : decode cX9_score 2 = .ok (.invokevirtual 139, 3) := by decide +kernel
theorem dX9_score_5 : decode cX9_score 5 = .ok (.ifCond .ne 13, 3) := by decide +kernel
theorem dX9_score_8 : decode cX9_score 8 = .ok (.new 143, 3) := by decide +kernel
theorem dX9_score_11 : decode cX9_score 11 = .ok (.dup, 1) := by decide +kernel
theorem dX9_score_12 : decode cX9_score 12 = .ok (.ldc 145, 2) := by decide +kernel
theorem dX9_score_14 : decode cX9_score 14 = .ok (.invokespecial 147, 3) := by decide +kernel
theorem dX9_score_17 : decode cX9_score 17 = .ok (.athrow, 1) := by decide +kernel
theorem dX9_score_18 : decode cX9_score 18 = .ok (.iload_n 2, 1) := by decide +kernel
theorem dX9_score_19 : decode cX9_score 19 = .ok (.iload_n 3, 1) := by decide +kernel
theorem dX9_score_20 : decode cX9_score 20 = .ok (.invokestatic 150, 3) := by decide +kernel
theorem dX9_score_23 : decode cX9_score 23 = .ok (.ifCond .ne 13, 3) := by decide +kernel
theorem dX9_score_26 : decode cX9_score 26 = .ok (.new 154, 3) := by decide +kernel
theorem dX9_score_29 : decode cX9_score 29 = .ok (.dup, 1) := by decide +kernel
theorem dX9_score_30 : decode cX9_score 30 = .ok (.ldc 156, 2) := by decide +kernel
theorem dX9_score_32 : decode cX9_score 32 = .ok (.invokespecial 158, 3) := by decide +kernel
theorem dX9_score_35 : decode cX9_score 35 = .ok (.athrow, 1) := by decide +kernel
theorem dX9_score_36 : decode cX9_score 36 = .ok (.aload_n 0, 1) := by decide +kernel
theorem dX9_score_37 : decode cX9_score 37 = .ok (.getfield 23, 3) := by decide +kernel
theorem dX9_score_40 : decode cX9_score 40 = .ok (.getfield 102, 3) := by decide +kernel
theorem dX9_score_43 : decode cX9_score 43 = .ok (.iload_n 1, 1) := by decide +kernel
theorem dX9_score_44 : decode cX9_score 44 = .ok (.iload_n 2, 1) := by decide +kernel
theorem dX9_score_45 : decode cX9_score 45 = .ok (.aload_n 0, 1) := by decide +kernel
theorem dX9_score_46 : decode cX9_score 46 = .ok (.getfield 33, 3) := by decide +kernel
theorem dX9_score_49 : decode cX9_score 49 = .ok (.getfield 159, 3) := by decide +kernel
theorem dX9_score_52 : decode cX9_score 52 = .ok (.iadd, 1) := by decide +kernel
theorem dX9_score_53 : decode cX9_score 53 = .ok (.iload_n 3, 1) := by decide +kernel
theorem dX9_score_54 : decode cX9_score 54 = .ok (.aload_n 0, 1) := by decide +kernel
theorem dX9_score_55 : decode cX9_score 55 = .ok (.getfield 33, 3) := by decide +kernel
theorem dX9_score_58 : decode cX9_score 58 = .ok (.getfield 162, 3) := by decide +kernel
theorem dX9_score_61 : decode cX9_score 61 = .ok (.iadd, 1) := by decide +kernel
theorem dX9_score_62 : decode cX9_score 62 = .ok (.invokevirtual 165, 3) := by decide +kernel
theorem dX9_score_65 : decode cX9_score 65 = .ok (.istore 4, 2) := by decide +kernel
theorem dX9_score_67 : decode cX9_score 67 = .ok (.iload 4, 2) := by decide +kernel
theorem dX9_score_69 : decode cX9_score 69 = .ok (.ldc 169, 2) := by decide +kernel
theorem dX9_score_71 : decode cX9_score 71 = .ok (.if_icmp .ne 8, 3) := by decide +kernel
theorem dX9_score_74 : decode cX9_score 74 = .ok (.bipush (-2), 2) := by decide +kernel
theorem dX9_score_76 : decode cX9_score 76 = .ok (.goto 5, 3) := by decide +kernel
theorem dX9_score_79 : decode cX9_score 79 = .ok (.iload 4, 2) := by decide +kernel
theorem dX9_score_81 : decode cX9_score 81 = .ok (.ireturn, 1) := by decide +kernel
def fn_X9_score (N : Nat) (M : Mem) (a0 : Nat) (x1 : Int32) (x2 : Int32) (x3 : Int32) : Option (Int32 × Mem) :=
  (mm_ck M a0 9).bind fun _ => mm_b2 (fn_X9_isType N M a0 x1) fun v2 M1 =>
  if v2 = 0 then
    none
  else
    mm_b2 (fn_X9_isMeasurement N M1 x2 x3) fun v4 M3 =>
    if v4 = 0 then
      none
    else
      (mm_gR M3 a0 9 3).bind fun b5 =>
      (mm_gR M3 b5 0 0).bind fun b6 =>
      (mm_gR M3 a0 9 5).bind fun b7 =>
      (mm_gI M3 b7 7 0).bind fun v8 =>
      (mm_gR M3 a0 9 5).bind fun b9 =>
      (mm_gI M3 b9 7 1).bind fun v10 =>
      (mm_ck M3 b6 3).bind fun _ => mm_b2 (fn_X3_scoreOf N M3 b6 x1 ((x2 + v8)) ((x3 + v10))) fun v12 M11 =>
      if v12 = 1000000 then
        some ((-2), M11)
      else
        some (v12, M11)
set_option maxRecDepth 100000 in
set_option maxHeartbeats 4000000 in
theorem ct_X9_score {l : Launch} {ω : Wd} {k N : Nat} {M : Mem} {a0 : Nat} {x1 : Int32} {x2 : Int32} {x3 : Int32} {r : Int32} {M' : Mem} (h : fn_X9_score N M a0 x1 x2 x3 = some (r, M')) : CM l ω k yX9_score cX9_score 5 (some .int) 2 0 0 [.ref a0, .int x1, .int x2, .int x3] M (some (.int r)) M' := by
  refine CM.of (by decide) (Nat.le_of_ble_eq_true rfl) fun Γ hl C hr hi => ?_
  subst hl
  unfold fn_X9_score at h
  refine jv_aload_n C dX9_score_0 rfl 0 rfl ?_
  refine jv_iload_n C dX9_score_1 rfl 1 rfl ?_
  refine jv_vI0 (As := [.int x1]) C lk_X9_139 rfl dX9_score_2 rfl rfl (by decide) (by decide) (by decide) (Nat.le_of_ble_eq_true rfl) h (fun _ _ h => ct_X9_isType h) (fun v2 M1 h => ?_)
  refine jv_if_ne (tgt := 18) C dX9_score_5 (by decide) h (fun h => ?_) (fun h => ?_)
  · refine jv_iload_n C dX9_score_18 rfl 2 rfl ?_
    refine jv_iload_n C dX9_score_19 rfl 3 rfl ?_
    refine jv_sI0 (As := [.int x2, .int x3]) C lk_X9_150 dX9_score_20 rfl rfl (by decide) (by decide) (by decide) (Nat.le_of_ble_eq_true rfl) h (fun _ _ h => ct_X9_isMeasurement h) (fun v4 M3 h => ?_)
    refine jv_if_ne (tgt := 36) C dX9_score_23 (by decide) h (fun h => ?_) (fun h => ?_)
    · refine jv_aload_n C dX9_score_36 rfl 0 rfl ?_
      refine jv_getR C fa_X9_23 dX9_score_37 h (fun b5 h => ?_)
      refine jv_getR C fa_X9_102 dX9_score_40 h (fun b6 h => ?_)
      refine jv_iload_n C dX9_score_43 rfl 1 rfl ?_
      refine jv_iload_n C dX9_score_44 rfl 2 rfl ?_
      refine jv_aload_n C dX9_score_45 rfl 0 rfl ?_
      refine jv_getR C fa_X9_33 dX9_score_46 h (fun b7 h => ?_)
      refine jv_getI C fa_X9_159 dX9_score_49 h (fun v8 h => ?_)
      refine jv_iadd C dX9_score_52 ?_
      refine jv_iload_n C dX9_score_53 rfl 3 rfl ?_
      refine jv_aload_n C dX9_score_54 rfl 0 rfl ?_
      refine jv_getR C fa_X9_33 dX9_score_55 h (fun b9 h => ?_)
      refine jv_getI C fa_X9_162 dX9_score_58 h (fun v10 h => ?_)
      refine jv_iadd C dX9_score_61 ?_
      refine jv_vI0 (As := [.int x1, .int (x2 + v8), .int (x3 + v10)]) C lk_X9_165 rfl dX9_score_62 rfl rfl (by decide) (by decide) (by decide) (Nat.le_of_ble_eq_true rfl) h (fun _ _ h => ct_X3_scoreOf h) (fun v12 M11 h => ?_)
      refine jv_istore (lv' := [(4, .int v12), (0, .ref a0), (1, .int x1), (2, .int x2), (3, .int x3)]) C dX9_score_65 (by decide) rfl ?_
      refine jv_iload C dX9_score_67 0 rfl ?_
      refine jv_ldc C gw_1304 dX9_score_69 ?_
      refine jv_icmp_ne (tgt := 79) C dX9_score_71 (by decide) h (fun h => ?_) (fun h => ?_)
      · refine jv_iload C dX9_score_79 0 rfl ?_
        exact jv_iret C hr dX9_score_81 h
      · refine jv_bipush (v := (-2)) C dX9_score_74 (by decide) ?_
        refine jv_goto (tgt := 81) C dX9_score_76 (by decide) ?_
        exact jv_iret C hr dX9_score_81 h
    · exact jv_no h
  · exact jv_no h
theorem dX9_setMargin_0 : decode cX9_setMargin 0 = .ok (.iload_n 1, 1) := by decide +kernel
theorem dX9_setMargin_1 : decode cX9_setMargin 1 = .ok (.invokestatic 251, 3) := by decide +kernel
theorem dX9_setMargin_4 : decode cX9_setMargin 4 = .ok (.ifCond .ne 5, 3) := by decide +kernel
theorem dX9_setMargin_7 : decode cX9_setMargin 7 = .ok (.iconst (-1), 1) := by decide +kernel
theorem dX9_setMargin_8 : decode cX9_setMargin 8 = .ok (.ireturn, 1) := by decide +kernel
theorem dX9_setMargin_9 : decode cX9_setMargin 9 = .ok (.aload_n 0, 1) := by decide +kernel
theorem dX9_setMargin_10 : decode cX9_setMargin 10 = .ok (.getfield 40, 3) := by decide +kernel
theorem dX9_setMargin_13 : decode cX9_setMargin 13 = .ok (.aload_n 0, 1) := by decide +kernel
theorem dX9_setMargin_14 : decode cX9_setMargin 14 = .ok (.getfield 33, 3) := by decide +kernel
theorem dX9_setMargin_17 : decode cX9_setMargin 17 = .ok (.invokevirtual 279, 3) := by decide +kernel
theorem dX9_setMargin_20 : decode cX9_setMargin 20 = .ok (.aload_n 0, 1) := by decide +kernel
theorem dX9_setMargin_21 : decode cX9_setMargin 21 = .ok (.getfield 33, 3) := by decide +kernel
theorem dX9_setMargin_24 : decode cX9_setMargin 24 = .ok (.getfield 170, 3) := by decide +kernel
theorem dX9_setMargin_27 : decode cX9_setMargin 27 = .ok (.istore_n 2, 1) := by decide +kernel
theorem dX9_setMargin_28 : decode cX9_setMargin 28 = .ok (.aload_n 0, 1) := by decide +kernel
theorem dX9_setMargin_29 : decode cX9_setMargin 29 = .ok (.getfield 33, 3) := by decide +kernel
theorem dX9_setMargin_32 : decode cX9_setMargin 32 = .ok (.iload_n 1, 1) := by decide +kernel
theorem dX9_setMargin_33 : decode cX9_setMargin 33 = .ok (.putfield 170, 3) := by decide +kernel
theorem dX9_setMargin_36 : decode cX9_setMargin 36 = .ok (.iload_n 2, 1) := by decide +kernel
theorem dX9_setMargin_37 : decode cX9_setMargin 37 = .ok (.ireturn, 1) := by decide +kernel
def fn_X9_setMargin (N : Nat) (M : Mem) (a0 : Nat) (x1 : Int32) : Option (Int32 × Mem) :=
  mm_b2 (fn_X9_isMargin N M x1) fun v2 M1 =>
  if v2 = 0 then
    some ((-1), M1)
  else
    (mm_gR M1 a0 9 6).bind fun b3 =>
    (mm_gR M1 a0 9 5).bind fun b4 =>
    (mm_ck M1 b3 1).bind fun _ => mm_b2 (fn_X1_push N M1 b3 b4) fun _ M5 =>
    (mm_gR M5 a0 9 5).bind fun b6 =>
    (mm_gI M5 b6 7 2).bind fun v7 =>
    (mm_gR M5 a0 9 5).bind fun b8 =>
    (mm_pV M5 b8 7 2 (.int x1)).bind fun M9 =>
    some (v7, M9)
set_option maxRecDepth 100000 in
set_option maxHeartbeats 4000000 in
theorem ct_X9_setMargin {l : Launch} {ω : Wd} {k N : Nat} {M : Mem} {a0 : Nat} {x1 : Int32} {r : Int32} {M' : Mem} (h : fn_X9_setMargin N M a0 x1 = some (r, M')) : CM l ω k yX9_setMargin cX9_setMargin 3 (some .int) 4 0 0 [.ref a0, .int x1] M (some (.int r)) M' := by
  refine CM.of (by decide) (Nat.le_of_ble_eq_true rfl) fun Γ hl C hr hi => ?_
  subst hl
  unfold fn_X9_setMargin at h
  refine jv_iload_n C dX9_setMargin_0 rfl 1 rfl ?_
  refine jv_sI0 (As := [.int x1]) C lk_X9_251 dX9_setMargin_1 rfl rfl (by decide) (by decide) (by decide) (Nat.le_of_ble_eq_true rfl) h (fun _ _ h => ct_X9_isMargin h) (fun v2 M1 h => ?_)
  refine jv_if_ne (tgt := 9) C dX9_setMargin_4 (by decide) h (fun h => ?_) (fun h => ?_)
  · refine jv_aload_n C dX9_setMargin_9 rfl 0 rfl ?_
    refine jv_getR C fa_X9_40 dX9_setMargin_10 h (fun b3 h => ?_)
    refine jv_aload_n C dX9_setMargin_13 rfl 0 rfl ?_
    refine jv_getR C fa_X9_33 dX9_setMargin_14 h (fun b4 h => ?_)
    refine jv_vV0 (As := [.ref b4]) C lk_X9_279 rfl dX9_setMargin_17 rfl rfl (by decide) (by decide) (by decide) (Nat.le_of_ble_eq_true rfl) h (fun _ _ h => ct_X1_push h) (fun _ M5 h => ?_)
    refine jv_aload_n C dX9_setMargin_20 rfl 0 rfl ?_
    refine jv_getR C fa_X9_33 dX9_setMargin_21 h (fun b6 h => ?_)
    refine jv_getI C fa_X9_170 dX9_setMargin_24 h (fun v7 h => ?_)
    refine jv_istore_n (lv' := [(2, .int v7), (0, .ref a0), (1, .int x1)]) C dX9_setMargin_27 rfl (by decide) rfl ?_
    refine jv_aload_n C dX9_setMargin_28 rfl 1 rfl ?_
    refine jv_getR C fa_X9_33 dX9_setMargin_29 h (fun b8 h => ?_)
    refine jv_iload_n C dX9_setMargin_32 rfl 2 rfl ?_
    refine jv_putI C fp_X9_170 dX9_setMargin_33 h (fun M9 h => ?_)
    refine jv_iload_n C dX9_setMargin_36 rfl 0 rfl ?_
    exact jv_iret C hr dX9_setMargin_37 h
  · refine jv_iconst (v := (-1)) C dX9_setMargin_7 (by decide) ?_
    exact jv_iret C hr dX9_setMargin_8 h
theorem dX9_step_0 : decode cX9_step 0 = .ok (.aload_n 0, 1) := by decide +kernel
theorem dX9_step_1 : decode cX9_step 1 = .ok (.invokevirtual 196, 3) := by decide +kernel
theorem dX9_step_4 : decode cX9_step 4 = .ok (.istore_n 1, 1) := by decide +kernel
theorem dX9_step_5 : decode cX9_step 5 = .ok (.iload_n 1, 1) := by decide +kernel
theorem dX9_step_6 : decode cX9_step 6 = .ok (.bipush (-2), 2) := by decide +kernel
theorem dX9_step_8 : decode cX9_step 8 = .ok (.if_icmp .eq 19, 3) := by decide +kernel
theorem dX9_step_11 : decode cX9_step 11 = .ok (.aload_n 0, 1) := by decide +kernel
theorem dX9_step_12 : decode cX9_step 12 = .ok (.getfield 40, 3) := by decide +kernel
theorem dX9_step_15 : decode cX9_step 15 = .ok (.aload_n 0, 1) := by decide +kernel
theorem dX9_step_16 : decode cX9_step 16 = .ok (.getfield 33, 3) := by decide +kernel
theorem dX9_step_19 : decode cX9_step 19 = .ok (.invokevirtual 279, 3) := by decide +kernel
theorem dX9_step_22 : decode cX9_step 22 = .ok (.aload_n 0, 1) := by decide +kernel
theorem dX9_step_23 : decode cX9_step 23 = .ok (.iload_n 1, 1) := by decide +kernel
theorem dX9_step_24 : decode cX9_step 24 = .ok (.invokevirtual 297, 3) := by decide +kernel
theorem dX9_step_27 : decode cX9_step 27 = .ok (.iload_n 1, 1) := by decide +kernel
theorem dX9_step_28 : decode cX9_step 28 = .ok (.ireturn, 1) := by decide +kernel
def fn_X9_step (N : Nat) (M : Mem) (a0 : Nat) : Option (Int32 × Mem) :=
  (mm_ck M a0 9).bind fun _ => mm_b2 (fn_X9_nextOutcome N M a0) fun v2 M1 =>
  if v2 = (-2) then
    some (v2, M1)
  else
    (mm_gR M1 a0 9 6).bind fun b3 =>
    (mm_gR M1 a0 9 5).bind fun b4 =>
    (mm_ck M1 b3 1).bind fun _ => mm_b2 (fn_X1_push N M1 b3 b4) fun _ M5 =>
    (mm_ck M5 a0 9).bind fun _ => mm_b2 (fn_X9_move N M5 a0 v2) fun _ M6 =>
    some (v2, M6)
set_option maxRecDepth 100000 in
set_option maxHeartbeats 4000000 in
theorem ct_X9_step {l : Launch} {ω : Wd} {k N : Nat} {M : Mem} {a0 : Nat} {r : Int32} {M' : Mem} (h : fn_X9_step N M a0 = some (r, M')) : CM l ω k yX9_step cX9_step 2 (some .int) 6 0 0 [.ref a0] M (some (.int r)) M' := by
  refine CM.of (by decide) (Nat.le_of_ble_eq_true rfl) fun Γ hl C hr hi => ?_
  subst hl
  unfold fn_X9_step at h
  refine jv_aload_n C dX9_step_0 rfl 0 rfl ?_
  refine jv_vI0 (As := []) C lk_X9_196 rfl dX9_step_1 rfl rfl (by decide) (by decide) (by decide) (Nat.le_of_ble_eq_true rfl) h (fun _ _ h => ct_X9_nextOutcome h) (fun v2 M1 h => ?_)
  refine jv_istore_n (lv' := [(1, .int v2), (0, .ref a0)]) C dX9_step_4 rfl (by decide) rfl ?_
  refine jv_iload_n C dX9_step_5 rfl 0 rfl ?_
  refine jv_bipush (v := (-2)) C dX9_step_6 (by decide) ?_
  refine jv_icmp_eq (tgt := 27) C dX9_step_8 (by decide) h (fun h => ?_) (fun h => ?_)
  · refine jv_iload_n C dX9_step_27 rfl 0 rfl ?_
    exact jv_iret C hr dX9_step_28 h
  · refine jv_aload_n C dX9_step_11 rfl 1 rfl ?_
    refine jv_getR C fa_X9_40 dX9_step_12 h (fun b3 h => ?_)
    refine jv_aload_n C dX9_step_15 rfl 1 rfl ?_
    refine jv_getR C fa_X9_33 dX9_step_16 h (fun b4 h => ?_)
    refine jv_vV0 (As := [.ref b4]) C lk_X9_279 rfl dX9_step_19 rfl rfl (by decide) (by decide) (by decide) (Nat.le_of_ble_eq_true rfl) h (fun _ _ h => ct_X1_push h) (fun _ M5 h => ?_)
    refine jv_aload_n C dX9_step_22 rfl 1 rfl ?_
    refine jv_iload_n C dX9_step_23 rfl 0 rfl ?_
    refine jv_vV0 (As := [.int v2]) C lk_X9_297 rfl dX9_step_24 rfl rfl (by decide) (by decide) (by decide) (Nat.le_of_ble_eq_true rfl) h (fun _ _ h => ct_X9_move h) (fun _ M6 h => ?_)
    refine jv_iload_n C dX9_step_27 rfl 0 rfl ?_
    exact jv_iret C hr dX9_step_28 h
theorem dX9_stepCount_0 : decode cX9_stepCount 0 = .ok (.aload_n 0, 1) := by decide +kernel
theorem dX9_stepCount_1 : decode cX9_stepCount 1 = .ok (.getfield 33, 3) := by decide +kernel
theorem dX9_stepCount_4 : decode cX9_stepCount 4 = .ok (.getfield 208, 3) := by decide +kernel
theorem dX9_stepCount_7 : decode cX9_stepCount 7 = .ok (.ireturn, 1) := by decide +kernel
def fn_X9_stepCount (N : Nat) (M : Mem) (a0 : Nat) : Option (Int32 × Mem) :=
  (mm_gR M a0 9 5).bind fun b1 =>
  (mm_gI M b1 7 4).bind fun v2 =>
  some (v2, M)
set_option maxRecDepth 100000 in
set_option maxHeartbeats 4000000 in
theorem ct_X9_stepCount {l : Launch} {ω : Wd} {k N : Nat} {M : Mem} {a0 : Nat} {r : Int32} {M' : Mem} (h : fn_X9_stepCount N M a0 = some (r, M')) : CM l ω k yX9_stepCount cX9_stepCount 1 (some .int) 0 0 0 [.ref a0] M (some (.int r)) M' := by
  refine CM.of (by decide) (Nat.le_of_ble_eq_true rfl) fun Γ hl C hr hi => ?_
  subst hl
  unfold fn_X9_stepCount at h
  refine jv_aload_n C dX9_stepCount_0 rfl 0 rfl ?_
  refine jv_getR C fa_X9_33 dX9_stepCount_1 h (fun b1 h => ?_)
  refine jv_getI C fa_X9_208 dX9_stepCount_4 h (fun v2 h => ?_)
  exact jv_iret C hr dX9_stepCount_7 h
theorem dX9_typeCount_0 : decode cX9_typeCount 0 = .ok (.aload_n 0, 1) := by decide +kernel
theorem dX9_typeCount_1 : decode cX9_typeCount 1 = .ok (.getfield 23, 3) := by decide +kernel
theorem dX9_typeCount_4 : decode cX9_typeCount 4 = .ok (.getfield 102, 3) := by decide +kernel
theorem dX9_typeCount_7 : decode cX9_typeCount 7 = .ok (.invokevirtual 106, 3) := by decide +kernel
theorem dX9_typeCount_10 : decode cX9_typeCount 10 = .ok (.ireturn, 1) := by decide +kernel
def fn_X9_typeCount (N : Nat) (M : Mem) (a0 : Nat) : Option (Int32 × Mem) :=
  (mm_gR M a0 9 3).bind fun b1 =>
  (mm_gR M b1 0 0).bind fun b2 =>
  (mm_ck M b2 3).bind fun _ => mm_b2 (fn_X3_count N M b2) fun v4 M3 =>
  some (v4, M3)
set_option maxRecDepth 100000 in
set_option maxHeartbeats 4000000 in
theorem ct_X9_typeCount {l : Launch} {ω : Wd} {k N : Nat} {M : Mem} {a0 : Nat} {r : Int32} {M' : Mem} (h : fn_X9_typeCount N M a0 = some (r, M')) : CM l ω k yX9_typeCount cX9_typeCount 1 (some .int) 1 0 0 [.ref a0] M (some (.int r)) M' := by
  refine CM.of (by decide) (Nat.le_of_ble_eq_true rfl) fun Γ hl C hr hi => ?_
  subst hl
  unfold fn_X9_typeCount at h
  refine jv_aload_n C dX9_typeCount_0 rfl 0 rfl ?_
  refine jv_getR C fa_X9_23 dX9_typeCount_1 h (fun b1 h => ?_)
  refine jv_getR C fa_X9_102 dX9_typeCount_4 h (fun b2 h => ?_)
  refine jv_vI0 (As := []) C lk_X9_106 rfl dX9_typeCount_7 rfl rfl (by decide) (by decide) (by decide) (Nat.le_of_ble_eq_true rfl) h (fun _ _ h => ct_X3_count h) (fun v4 M3 h => ?_)
  exact jv_iret C hr dX9_typeCount_10 h
theorem dX9_typeValue_0 : decode cX9_typeValue 0 = .ok (.aload_n 0, 1) := by decide +kernel
theorem dX9_typeValue_1 : decode cX9_typeValue 1 = .ok (.getfield 23, 3) := by decide +kernel
theorem dX9_typeValue_4 : decode cX9_typeValue 4 = .ok (.getfield 102, 3) := by decide +kernel
theorem dX9_typeValue_7 : decode cX9_typeValue 7 = .ok (.getfield 129, 3) := by decide +kernel
theorem dX9_typeValue_10 : decode cX9_typeValue 10 = .ok (.iload_n 1, 1) := by decide +kernel
theorem dX9_typeValue_11 : decode cX9_typeValue 11 = .ok (.invokevirtual 132, 3) := by decide +kernel
theorem dX9_typeValue_14 : decode cX9_typeValue 14 = .ok (.ireturn, 1) := by decide +kernel
def fn_X9_typeValue (N : Nat) (M : Mem) (a0 : Nat) (x1 : Int32) : Option (Int32 × Mem) :=
  (mm_gR M a0 9 3).bind fun b1 =>
  (mm_gR M b1 0 0).bind fun b2 =>
  (mm_gR M b2 3 0).bind fun b3 =>
  (mm_ck M b3 6).bind fun _ => mm_b2 (fn_X6_at N M b3 x1) fun v5 M4 =>
  some (v5, M4)
set_option maxRecDepth 100000 in
set_option maxHeartbeats 4000000 in
theorem ct_X9_typeValue {l : Launch} {ω : Wd} {k N : Nat} {M : Mem} {a0 : Nat} {x1 : Int32} {r : Int32} {M' : Mem} (h : fn_X9_typeValue N M a0 x1 = some (r, M')) : CM l ω k yX9_typeValue cX9_typeValue 2 (some .int) 1 0 0 [.ref a0, .int x1] M (some (.int r)) M' := by
  refine CM.of (by decide) (Nat.le_of_ble_eq_true rfl) fun Γ hl C hr hi => ?_
  subst hl
  unfold fn_X9_typeValue at h
  refine jv_aload_n C dX9_typeValue_0 rfl 0 rfl ?_
  refine jv_getR C fa_X9_23 dX9_typeValue_1 h (fun b1 h => ?_)
  refine jv_getR C fa_X9_102 dX9_typeValue_4 h (fun b2 h => ?_)
  refine jv_getR C fa_X9_129 dX9_typeValue_7 h (fun b3 h => ?_)
  refine jv_iload_n C dX9_typeValue_10 rfl 1 rfl ?_
  refine jv_vI0 (As := [.int x1]) C lk_X9_132 rfl dX9_typeValue_11 rfl rfl (by decide) (by decide) (by decide) (Nat.le_of_ble_eq_true rfl) h (fun _ _ h => ct_X6_at h) (fun v5 M4 h => ?_)
  exact jv_iret C hr dX9_typeValue_14 h
theorem dX9_undo_0 : decode cX9_undo 0 = .ok (.aload_n 0, 1) := by decide +kernel
theorem dX9_undo_1 : decode cX9_undo 1 = .ok (.getfield 40, 3) := by decide +kernel
theorem dX9_undo_4 : decode cX9_undo 4 = .ok (.aload_n 0, 1) := by decide +kernel
theorem dX9_undo_5 : decode cX9_undo 5 = .ok (.getfield 33, 3) := by decide +kernel
theorem dX9_undo_8 : decode cX9_undo 8 = .ok (.invokevirtual 342, 3) := by decide +kernel
theorem dX9_undo_11 : decode cX9_undo 11 = .ok (.ifCond .eq 13, 3) := by decide +kernel
theorem dX9_undo_14 : decode cX9_undo 14 = .ok (.aload_n 0, 1) := by decide +kernel
theorem dX9_undo_15 : decode cX9_undo 15 = .ok (.getfield 40, 3) := by decide +kernel
theorem dX9_undo_18 : decode cX9_undo 18 = .ok (.getfield 346, 3) := by decide +kernel
theorem dX9_undo_21 : decode cX9_undo 21 = .ok (.goto 5, 3) := by decide +kernel
theorem dX9_undo_24 : decode cX9_undo 24 = .ok (.bipush (-2), 2) := by decide +kernel
theorem dX9_undo_26 : decode cX9_undo 26 = .ok (.ireturn, 1) := by decide +kernel
def fn_X9_undo (N : Nat) (M : Mem) (a0 : Nat) : Option (Int32 × Mem) :=
  (mm_gR M a0 9 6).bind fun b1 =>
  (mm_gR M a0 9 5).bind fun b2 =>
  (mm_ck M b1 1).bind fun _ => mm_b2 (fn_X1_pop N M b1 b2) fun v4 M3 =>
  if v4 = 0 then
    some ((-2), M3)
  else
    (mm_gR M3 a0 9 6).bind fun b5 =>
    (mm_gI M3 b5 1 2).bind fun v6 =>
    some (v6, M3)
set_option maxRecDepth 100000 in
set_option maxHeartbeats 4000000 in
theorem ct_X9_undo {l : Launch} {ω : Wd} {k N : Nat} {M : Mem} {a0 : Nat} {r : Int32} {M' : Mem} (h : fn_X9_undo N M a0 = some (r, M')) : CM l ω k yX9_undo cX9_undo 1 (some .int) 4 0 0 [.ref a0] M (some (.int r)) M' := by
  refine CM.of (by decide) (Nat.le_of_ble_eq_true rfl) fun Γ hl C hr hi => ?_
  subst hl
  unfold fn_X9_undo at h
  refine jv_aload_n C dX9_undo_0 rfl 0 rfl ?_
  refine jv_getR C fa_X9_40 dX9_undo_1 h (fun b1 h => ?_)
  refine jv_aload_n C dX9_undo_4 rfl 0 rfl ?_
  refine jv_getR C fa_X9_33 dX9_undo_5 h (fun b2 h => ?_)
  refine jv_vI0 (As := [.ref b2]) C lk_X9_342 rfl dX9_undo_8 rfl rfl (by decide) (by decide) (by decide) (Nat.le_of_ble_eq_true rfl) h (fun _ _ h => ct_X1_pop h) (fun v4 M3 h => ?_)
  refine jv_if_eq (tgt := 24) C dX9_undo_11 (by decide) h (fun h => ?_) (fun h => ?_)
  · refine jv_bipush (v := (-2)) C dX9_undo_24 (by decide) ?_
    exact jv_iret C hr dX9_undo_26 h
  · refine jv_aload_n C dX9_undo_14 rfl 0 rfl ?_
    refine jv_getR C fa_X9_40 dX9_undo_15 h (fun b5 h => ?_)
    refine jv_getI C fa_X9_346 dX9_undo_18 h (fun v6 h => ?_)
    refine jv_goto (tgt := 26) C dX9_undo_21 (by decide) ?_
    exact jv_iret C hr dX9_undo_26 h
theorem dX9_worstBag_0 : decode cX9_worstBag 0 = .ok (.bipush (-2), 2) := by decide +kernel
theorem dX9_worstBag_2 : decode cX9_worstBag 2 = .ok (.istore_n 1, 1) := by decide +kernel
theorem dX9_worstBag_3 : decode cX9_worstBag 3 = .ok (.iconst 0, 1) := by decide +kernel
theorem dX9_worstBag_4 : decode cX9_worstBag 4 = .ok (.istore_n 2, 1) := by decide +kernel
theorem dX9_worstBag_5 : decode cX9_worstBag 5 = .ok (.iconst 0, 1) := by decide +kernel
theorem dX9_worstBag_6 : decode cX9_worstBag 6 = .ok (.istore_n 3, 1) := by decide +kernel
theorem dX9_worstBag_7 : decode cX9_worstBag 7 = .ok (.iload_n 3, 1) := by decide +kernel
theorem dX9_worstBag_8 : decode cX9_worstBag 8 = .ok (.aload_n 0, 1) := by decide +kernel
theorem dX9_worstBag_9 : decode cX9_worstBag 9 = .ok (.getfield 33, 3) := by decide +kernel
theorem dX9_worstBag_12 : decode cX9_worstBag 12 = .ok (.getfield 214, 3) := by decide +kernel
theorem dX9_worstBag_15 : decode cX9_worstBag 15 = .ok (.getfield 124, 3) := by decide +kernel
theorem dX9_worstBag_18 : decode cX9_worstBag 18 = .ok (.if_icmp .ge 30, 3) := by decide +kernel
theorem dX9_worstBag_21 : decode cX9_worstBag 21 = .ok (.aload_n 0, 1) := by decide +kernel
theorem dX9_worstBag_22 : decode cX9_worstBag 22 = .ok (.iload_n 3, 1) := by decide +kernel
theorem dX9_worstBag_23 : decode cX9_worstBag 23 = .ok (.invokevirtual 220, 3) := by decide +kernel
theorem dX9_worstBag_26 : decode cX9_worstBag 26 = .ok (.invokestatic 226, 3) := by decide +kernel
theorem dX9_worstBag_29 : decode cX9_worstBag 29 = .ok (.istore 4, 2) := by decide +kernel
theorem dX9_worstBag_31 : decode cX9_worstBag 31 = .ok (.iload 4, 2) := by decide +kernel
theorem dX9_worstBag_33 : decode cX9_worstBag 33 = .ok (.iload_n 2, 1) := by decide +kernel
theorem dX9_worstBag_34 : decode cX9_worstBag 34 = .ok (.if_icmp .le 8, 3) := by decide +kernel
theorem dX9_worstBag_37 : decode cX9_worstBag 37 = .ok (.iload_n 3, 1) := by decide +kernel
theorem dX9_worstBag_38 : decode cX9_worstBag 38 = .ok (.istore_n 1, 1) := by decide +kernel
theorem dX9_worstBag_39 : decode cX9_worstBag 39 = .ok (.iload 4, 2) := by decide +kernel
theorem dX9_worstBag_41 : decode cX9_worstBag 41 = .ok (.istore_n 2, 1) := by decide +kernel
theorem dX9_worstBag_42 : decode cX9_worstBag 42 = .ok (.iinc 3 1, 3) := by decide +kernel
theorem dX9_worstBag_45 : decode cX9_worstBag 45 = .ok (.goto (-38), 3) := by decide +kernel
theorem dX9_worstBag_48 : decode cX9_worstBag 48 = .ok (.iload_n 1, 1) := by decide +kernel
theorem dX9_worstBag_49 : decode cX9_worstBag 49 = .ok (.ireturn, 1) := by decide +kernel
def fn_X9_worstBag_42 (N : Nat) (K7 : Mem → Nat → Int32 → Int32 → Int32 → Option (Int32 × Mem)) (M : Mem) (a0 : Nat) (x1 : Int32) (x2 : Int32) (x3 : Int32) : Option (Int32 × Mem) :=
  K7 M a0 x1 x2 ((x3 + 1))
set_option maxRecDepth 100000 in
set_option maxHeartbeats 4000000 in
theorem bk_X9_worstBag_42 {Γ : Gm} {ω : Wd} {k N : Nat} {r : Int32} {M' : Mem} (C : Cx Γ cX9_worstBag 5 RX9 ω 2 0 0) (hr : Γ.meth.sig.returnType = (some .int)) {K7 : Mem → Nat → Int32 → Int32 → Int32 → Option (Int32 × Mem)} (hK7 : ∀ (M : Mem) (a0 : Nat) (x1 : Int32) (x2 : Int32) (x3 : Int32), K7 M a0 x1 x2 x3 = some (r, M') → JJ Γ (QF Γ ω k 0 0 (some (.int r)) M') 5 ω k M 0 0 7 [(0, .ref a0), (1, .int x1), (2, .int x2), (3, .int x3)] []) (M : Mem) (a0 : Nat) (x1 : Int32) (x2 : Int32) (x3 : Int32) (h : fn_X9_worstBag_42 N K7 M a0 x1 x2 x3 = some (r, M')) : JJ Γ (QF Γ ω k 0 0 (some (.int r)) M') 5 ω k M 0 0 42 [(0, .ref a0), (1, .int x1), (2, .int x2), (3, .int x3)] [] := by
  unfold fn_X9_worstBag_42 at h
  refine jv_iinc (v := 1) (lv' := [(3, .int (x3 + 1)), (0, .ref a0), (1, .int x1), (2, .int x2)]) C dX9_worstBag_42 3 rfl (by decide) (by decide) rfl ?_
  refine jv_goto (tgt := 7) C dX9_worstBag_45 (by decide) ?_
  refine jv_sub [1, 2, 3, 0] rfl ?_
  exact hK7 _ _ _ _ _ h
def fn_X9_worstBag_7 (N : Nat) : Nat → Mem → Nat → Int32 → Int32 → Int32 → Option (Int32 × Mem)
  | 0, _, _, _, _, _ => none
  | n + 1, M, a0, x1, x2, x3 =>
    (mm_gR M a0 9 5).bind fun b1 =>
    (mm_gR M b1 7 10).bind fun b2 =>
    (mm_gI M b2 6 1).bind fun v3 =>
    if v3 ≤ x3 then
      some (x1, M)
    else
      (mm_ck M a0 9).bind fun _ => mm_b2 (fn_X9_discrepancyOf N M a0 x3) fun v5 M4 =>
      mm_lt (if (0 : Int32) ≤ v5 then v5 else 0 - v5) fun v6 =>
      if v6 ≤ x2 then
        fn_X9_worstBag_42 N (fn_X9_worstBag_7 N n) M4 a0 x1 x2 x3
      else
        fn_X9_worstBag_42 N (fn_X9_worstBag_7 N n) M4 a0 x3 v6 x3
set_option maxRecDepth 100000 in
set_option maxHeartbeats 4000000 in
theorem bk_X9_worstBag_7 {Γ : Gm} {ω : Wd} {k N : Nat} {r : Int32} {M' : Mem} (C : Cx Γ cX9_worstBag 5 RX9 ω 2 0 0) (hr : Γ.meth.sig.returnType = (some .int)) : ∀ (n : Nat) (M : Mem) (a0 : Nat) (x1 : Int32) (x2 : Int32) (x3 : Int32), fn_X9_worstBag_7 N n M a0 x1 x2 x3 = some (r, M') → JJ Γ (QF Γ ω k 0 0 (some (.int r)) M') 5 ω k M 0 0 7 [(0, .ref a0), (1, .int x1), (2, .int x2), (3, .int x3)] [] := by
  intro n
  induction n with
  | zero => intro M a0 x1 x2 x3 h; exact jv_no h
  | succ n ih =>
    intro M a0 x1 x2 x3 h
    rw [fn_X9_worstBag_7.eq_2] at h
    refine jv_iload_n C dX9_worstBag_7 rfl 3 rfl ?_
    refine jv_aload_n C dX9_worstBag_8 rfl 0 rfl ?_
    refine jv_getR C fa_X9_33 dX9_worstBag_9 h (fun b1 h => ?_)
    refine jv_getR C fa_X9_214 dX9_worstBag_12 h (fun b2 h => ?_)
    refine jv_getI C fa_X9_124 dX9_worstBag_15 h (fun v3 h => ?_)
    refine jv_icmp_ge (tgt := 48) C dX9_worstBag_18 (by decide) h (fun h => ?_) (fun h => ?_)
    · refine jv_iload_n C dX9_worstBag_48 rfl 1 rfl ?_
      exact jv_iret C hr dX9_worstBag_49 h
    · refine jv_aload_n C dX9_worstBag_21 rfl 0 rfl ?_
      refine jv_iload_n C dX9_worstBag_22 rfl 3 rfl ?_
      refine jv_vI0 (As := [.int x3]) C lk_X9_220 rfl dX9_worstBag_23 rfl rfl (by decide) (by decide) (by decide) (Nat.le_of_ble_eq_true rfl) h (fun _ _ h => ct_X9_discrepancyOf h) (fun v5 M4 h => ?_)
      refine jv_mabs C gw_1094 gw_1095 gw_98 gw_1096 (by decide) (by decide) (Nat.le_of_ble_eq_true rfl) dX9_worstBag_26 ?_
      refine jv_nameI h (fun v6 h => ?_)
      refine jv_istore (lv' := [(4, .int v6), (0, .ref a0), (1, .int x1), (2, .int x2), (3, .int x3)]) C dX9_worstBag_29 (by decide) rfl ?_
      refine jv_iload C dX9_worstBag_31 0 rfl ?_
      refine jv_iload_n C dX9_worstBag_33 rfl 3 rfl ?_
      refine jv_icmp_le (tgt := 42) C dX9_worstBag_34 (by decide) h (fun h => ?_) (fun h => ?_)
      · refine jv_sub [1, 2, 3, 4] rfl ?_
        exact bk_X9_worstBag_42 C hr ih _ _ _ _ _ h
      · refine jv_iload_n C dX9_worstBag_37 rfl 4 rfl ?_
        refine jv_istore_n (lv' := [(1, .int x3), (4, .int v6), (0, .ref a0), (2, .int x2), (3, .int x3)]) C dX9_worstBag_38 rfl (by decide) rfl ?_
        refine jv_iload C dX9_worstBag_39 1 rfl ?_
        refine jv_istore_n (lv' := [(2, .int v6), (1, .int x3), (4, .int v6), (0, .ref a0), (3, .int x3)]) C dX9_worstBag_41 rfl (by decide) rfl ?_
        refine jv_sub [3, 1, 0, 4] rfl ?_
        exact bk_X9_worstBag_42 C hr ih _ _ _ _ _ h
def fn_X9_worstBag (N : Nat) (M : Mem) (a0 : Nat) : Option (Int32 × Mem) :=
  fn_X9_worstBag_7 N N M a0 ((-2)) 0 0
set_option maxRecDepth 100000 in
set_option maxHeartbeats 4000000 in
theorem ct_X9_worstBag {l : Launch} {ω : Wd} {k N : Nat} {M : Mem} {a0 : Nat} {r : Int32} {M' : Mem} (h : fn_X9_worstBag N M a0 = some (r, M')) : CM l ω k yX9_worstBag cX9_worstBag 5 (some .int) 2 0 0 [.ref a0] M (some (.int r)) M' := by
  refine CM.of (by decide) (Nat.le_of_ble_eq_true rfl) fun Γ hl C hr hi => ?_
  subst hl
  unfold fn_X9_worstBag at h
  refine jv_bipush (v := (-2)) C dX9_worstBag_0 (by decide) ?_
  refine jv_istore_n (lv' := [(1, .int (-2)), (0, .ref a0)]) C dX9_worstBag_2 rfl (by decide) rfl ?_
  refine jv_iconst (v := 0) C dX9_worstBag_3 (by decide) ?_
  refine jv_istore_n (lv' := [(2, .int 0), (1, .int (-2)), (0, .ref a0)]) C dX9_worstBag_4 rfl (by decide) rfl ?_
  refine jv_iconst (v := 0) C dX9_worstBag_5 (by decide) ?_
  refine jv_istore_n (lv' := [(3, .int 0), (2, .int 0), (1, .int (-2)), (0, .ref a0)]) C dX9_worstBag_6 rfl (by decide) rfl ?_
  refine jv_sub [3, 2, 1, 0] rfl ?_
  exact bk_X9_worstBag_7 C hr _ _ _ _ _ _ h
