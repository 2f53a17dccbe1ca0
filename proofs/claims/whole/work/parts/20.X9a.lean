theorem dX9_isMeasurement_0 : decode cX9_isMeasurement 0 = .ok (.iload_n 0, 1) := by decide +kernel
theorem dX9_isMeasurement_1 : decode cX9_isMeasurement 1 = .ok (.iconst 1, 1) := by decide +kernel
theorem dX9_isMeasurement_2 : decode cX9_isMeasurement 2 = .ok (.if_icmp .lt 25, 3) := by decide +kernel
theorem dX9_isMeasurement_5 : decode cX9_isMeasurement 5 = .ok (.iload_n 0, 1) := by decide +kernel
theorem dX9_isMeasurement_6 : decode cX9_isMeasurement 6 = .ok (.sipush 4000, 3) := by decide +kernel
theorem dX9_isMeasurement_9 : decode cX9_isMeasurement 9 = .ok (.if_icmp .gt 18, 3) := by decide +kernel
theorem dX9_isMeasurement_12 : decode cX9_isMeasurement 12 = .ok (.iload_n 1, 1) := by decide +kernel
theorem dX9_isMeasurement_13 : decode cX9_isMeasurement 13 = .ok (.ifCond .lt 14, 3) := by decide +kernel
theorem dX9_isMeasurement_16 : decode cX9_isMeasurement 16 = .ok (.iload_n 1, 1) := by decide +kernel
theorem dX9_isMeasurement_17 : decode cX9_isMeasurement 17 = .ok (.sipush 9999, 3) := by decide +kernel
theorem dX9_isMeasurement_20 : decode cX9_isMeasurement 20 = .ok (.if_icmp .gt 7, 3) := by decide +kernel
theorem dX9_isMeasurement_23 : decode cX9_isMeasurement 23 = .ok (.iconst 1, 1) := by decide +kernel
theorem dX9_isMeasurement_24 : decode cX9_isMeasurement 24 = .ok (.goto 4, 3) := by decide +kernel
theorem dX9_isMeasurement_27 : decode cX9_isMeasurement 27 = .ok (.iconst 0, 1) := by decide +kernel
theorem dX9_isMeasurement_28 : decode cX9_isMeasurement 28 = .ok (.ireturn, 1) := by decide +kernel
def fn_X9_isMeasurement (N : Nat) (M : Mem) (x0 : Int32) (x1 : Int32) : Option (Int32 × Mem) :=
  if x0 < 1 then
    some (0, M)
  else
    if 4000 < x0 then
      some (0, M)
    else
      if x1 < 0 then
        some (0, M)
      else
        if 9999 < x1 then
          some (0, M)
        else
          some (1, M)
set_option maxRecDepth 100000 in
set_option maxHeartbeats 4000000 in
theorem ct_X9_isMeasurement {l : Launch} {ω : Wd} {k N : Nat} {M : Mem} {x0 : Int32} {x1 : Int32} {r : Int32} {M' : Mem} (h : fn_X9_isMeasurement N M x0 x1 = some (r, M')) : CM l ω k yX9_isMeasurement cX9_isMeasurement 2 (some .boolean) 0 0 0 [.int x0, .int x1] M (some (.int r)) M' := by
  refine CM.of (by decide) (Nat.le_of_ble_eq_true rfl) fun Γ hl C hr hi => ?_
  subst hl
  unfold fn_X9_isMeasurement at h
  refine jv_iload_n C dX9_isMeasurement_0 rfl 0 rfl ?_
  refine jv_iconst (v := 1) C dX9_isMeasurement_1 (by decide) ?_
  refine jv_icmp_lt (tgt := 27) C dX9_isMeasurement_2 (by decide) h (fun h => ?_) (fun h => ?_)
  · refine jv_iconst (v := 0) C dX9_isMeasurement_27 (by decide) ?_
    exact jv_zretc C hr (Or.inl rfl) dX9_isMeasurement_28 h
  · refine jv_iload_n C dX9_isMeasurement_5 rfl 0 rfl ?_
    refine jv_sipush (v := 4000) C dX9_isMeasurement_6 (by decide) ?_
    refine jv_icmp_gt (tgt := 27) C dX9_isMeasurement_9 (by decide) h (fun h => ?_) (fun h => ?_)
    · refine jv_iconst (v := 0) C dX9_isMeasurement_27 (by decide) ?_
      exact jv_zretc C hr (Or.inl rfl) dX9_isMeasurement_28 h
    · refine jv_iload_n C dX9_isMeasurement_12 rfl 1 rfl ?_
      refine jv_if_lt (tgt := 27) C dX9_isMeasurement_13 (by decide) h (fun h => ?_) (fun h => ?_)
      · refine jv_iconst (v := 0) C dX9_isMeasurement_27 (by decide) ?_
        exact jv_zretc C hr (Or.inl rfl) dX9_isMeasurement_28 h
      · refine jv_iload_n C dX9_isMeasurement_16 rfl 1 rfl ?_
        refine jv_sipush (v := 9999) C dX9_isMeasurement_17 (by decide) ?_
        refine jv_icmp_gt (tgt := 27) C dX9_isMeasurement_20 (by decide) h (fun h => ?_) (fun h => ?_)
        · refine jv_iconst (v := 0) C dX9_isMeasurement_27 (by decide) ?_
          exact jv_zretc C hr (Or.inl rfl) dX9_isMeasurement_28 h
        · refine jv_iconst (v := 1) C dX9_isMeasurement_23 (by decide) ?_
          refine jv_goto (tgt := 28) C dX9_isMeasurement_24 (by decide) ?_
          exact jv_zretc C hr (Or.inr rfl) dX9_isMeasurement_28 h
theorem dX9_isType_0 : decode cX9_isType 0 = .ok (.aload_n 0, 1) := by decide +kernel
theorem dX9_isType_1 : decode cX9_isType 1 = .ok (.getfield 23, 3) := by decide +kernel
theorem dX9_isType_4 : decode cX9_isType 4 = .ok (.getfield 102, 3) := by decide +kernel
theorem dX9_isType_7 : decode cX9_isType 7 = .ok (.getfield 129, 3) := by decide +kernel
theorem dX9_isType_10 : decode cX9_isType 10 = .ok (.iload_n 1, 1) := by decide +kernel
theorem dX9_isType_11 : decode cX9_isType 11 = .ok (.invokevirtual 183, 3) := by decide +kernel
theorem dX9_isType_14 : decode cX9_isType 14 = .ok (.ireturn, 1) := by decide +kernel
def fn_X9_isType (N : Nat) (M : Mem) (a0 : Nat) (x1 : Int32) : Option (Int32 × Mem) :=
  (mm_gR M a0 9 3).bind fun b1 =>
  (mm_gR M b1 0 0).bind fun b2 =>
  (mm_gR M b2 3 0).bind fun b3 =>
  (mm_ck M b3 6).bind fun _ => mm_b2 (fn_X6_has N M b3 x1) fun v5 M4 =>
  if v5 = 0 ∨ v5 = 1 then some (v5, M4) else none
set_option maxRecDepth 100000 in
set_option maxHeartbeats 4000000 in
theorem ct_X9_isType {l : Launch} {ω : Wd} {k N : Nat} {M : Mem} {a0 : Nat} {x1 : Int32} {r : Int32} {M' : Mem} (h : fn_X9_isType N M a0 x1 = some (r, M')) : CM l ω k yX9_isType cX9_isType 2 (some .boolean) 1 0 0 [.ref a0, .int x1] M (some (.int r)) M' := by
  refine CM.of (by decide) (Nat.le_of_ble_eq_true rfl) fun Γ hl C hr hi => ?_
  subst hl
  unfold fn_X9_isType at h
  refine jv_aload_n C dX9_isType_0 rfl 0 rfl ?_
  refine jv_getR C fa_X9_23 dX9_isType_1 h (fun b1 h => ?_)
  refine jv_getR C fa_X9_102 dX9_isType_4 h (fun b2 h => ?_)
  refine jv_getR C fa_X9_129 dX9_isType_7 h (fun b3 h => ?_)
  refine jv_iload_n C dX9_isType_10 rfl 1 rfl ?_
  refine jv_vI0 (As := [.int x1]) C lk_X9_183 rfl dX9_isType_11 rfl rfl (by decide) (by decide) (by decide) (Nat.le_of_ble_eq_true rfl) h (fun _ _ h => ct_X6_has h) (fun v5 M4 h => ?_)
  exact jv_zret C hr dX9_isType_14 h
theorem dX9_coinOf_0 : decode cX9_coinOf 0 = .ok (.iload_n 0, 1) := by decide +kernel
theorem dX9_coinOf_1 : decode cX9_coinOf 1 = .ok (.sipush 10000, 3) := by decide +kernel
theorem dX9_coinOf_4 : decode cX9_coinOf 4 = .ok (.imul, 1) := by decide +kernel
theorem dX9_coinOf_5 : decode cX9_coinOf 5 = .ok (.iload_n 1, 1) := by decide +kernel
theorem dX9_coinOf_6 : decode cX9_coinOf 6 = .ok (.iadd, 1) := by decide +kernel
theorem dX9_coinOf_7 : decode cX9_coinOf 7 = .ok (.ireturn, 1) := by decide +kernel
def fn_X9_coinOf (N : Nat) (M : Mem) (x0 : Int32) (x1 : Int32) : Option (Int32 × Mem) :=
  some (((x0 * 10000) + x1), M)
set_option maxRecDepth 100000 in
set_option maxHeartbeats 4000000 in
theorem ct_X9_coinOf {l : Launch} {ω : Wd} {k N : Nat} {M : Mem} {x0 : Int32} {x1 : Int32} {r : Int32} {M' : Mem} (h : fn_X9_coinOf N M x0 x1 = some (r, M')) : CM l ω k yX9_coinOf cX9_coinOf 2 (some .int) 0 0 0 [.int x0, .int x1] M (some (.int r)) M' := by
  refine CM.of (by decide) (Nat.le_of_ble_eq_true rfl) fun Γ hl C hr hi => ?_
  subst hl
  unfold fn_X9_coinOf at h
  refine jv_iload_n C dX9_coinOf_0 rfl 0 rfl ?_
  refine jv_sipush (v := 10000) C dX9_coinOf_1 (by decide) ?_
  refine jv_imul C dX9_coinOf_4 ?_
  refine jv_iload_n C dX9_coinOf_5 rfl 1 rfl ?_
  refine jv_iadd C dX9_coinOf_6 ?_
  exact jv_iret C hr dX9_coinOf_7 h
theorem dX9_addSample_0 : decode cX9_addSample 0 = .ok (.iload_n 1, 1) := by decide +kernel
theorem dX9_addSample_1 : decode cX9_addSample 1 = .ok (.iload_n 2, 1) := by decide +kernel
theorem dX9_addSample_2 : decode cX9_addSample 2 = .ok (.invokestatic 150, 3) := by decide +kernel
theorem dX9_addSample_5 : decode cX9_addSample 5 = .ok (.ifCond .eq 16, 3) := by decide +kernel
theorem dX9_addSample_8 : decode cX9_addSample 8 = .ok (.iload_n 3, 1) := by decide +kernel
theorem dX9_addSample_9 : decode cX9_addSample 9 = .ok (.iconst (-1), 1) := by decide +kernel
theorem dX9_addSample_10 : decode cX9_addSample 10 = .ok (.if_icmp .eq 13, 3) := by decide +kernel
theorem dX9_addSample_13 : decode cX9_addSample 13 = .ok (.aload_n 0, 1) := by decide +kernel
theorem dX9_addSample_14 : decode cX9_addSample 14 = .ok (.iload_n 3, 1) := by decide +kernel
theorem dX9_addSample_15 : decode cX9_addSample 15 = .ok (.invokevirtual 139, 3) := by decide +kernel
theorem dX9_addSample_18 : decode cX9_addSample 18 = .ok (.ifCond .ne 5, 3) := by decide +kernel
theorem dX9_addSample_21 : decode cX9_addSample 21 = .ok (.iconst (-1), 1) := by decide +kernel
theorem dX9_addSample_22 : decode cX9_addSample 22 = .ok (.ireturn, 1) := by decide +kernel
theorem dX9_addSample_23 : decode cX9_addSample 23 = .ok (.aload_n 0, 1) := by decide +kernel
theorem dX9_addSample_24 : decode cX9_addSample 24 = .ok (.getfield 33, 3) := by decide +kernel
theorem dX9_addSample_27 : decode cX9_addSample 27 = .ok (.getfield 248, 3) := by decide +kernel
theorem dX9_addSample_30 : decode cX9_addSample 30 = .ok (.invokevirtual 289, 3) := by decide +kernel
theorem dX9_addSample_33 : decode cX9_addSample 33 = .ok (.ifCond .eq 6, 3) := by decide +kernel
theorem dX9_addSample_36 : decode cX9_addSample 36 = .ok (.bipush (-3), 2) := by decide +kernel
theorem dX9_addSample_38 : decode cX9_addSample 38 = .ok (.ireturn, 1) := by decide +kernel
theorem dX9_addSample_39 : decode cX9_addSample 39 = .ok (.aload_n 0, 1) := by decide +kernel
theorem dX9_addSample_40 : decode cX9_addSample 40 = .ok (.getfield 40, 3) := by decide +kernel
theorem dX9_addSample_43 : decode cX9_addSample 43 = .ok (.aload_n 0, 1) := by decide +kernel
theorem dX9_addSample_44 : decode cX9_addSample 44 = .ok (.getfield 33, 3) := by decide +kernel
theorem dX9_addSample_47 : decode cX9_addSample 47 = .ok (.invokevirtual 279, 3) := by decide +kernel
theorem dX9_addSample_50 : decode cX9_addSample 50 = .ok (.aload_n 0, 1) := by decide +kernel
theorem dX9_addSample_51 : decode cX9_addSample 51 = .ok (.getfield 33, 3) := by decide +kernel
theorem dX9_addSample_54 : decode cX9_addSample 54 = .ok (.getfield 248, 3) := by decide +kernel
theorem dX9_addSample_57 : decode cX9_addSample 57 = .ok (.iload_n 1, 1) := by decide +kernel
theorem dX9_addSample_58 : decode cX9_addSample 58 = .ok (.iload_n 2, 1) := by decide +kernel
theorem dX9_addSample_59 : decode cX9_addSample 59 = .ok (.invokestatic 292, 3) := by decide +kernel
theorem dX9_addSample_62 : decode cX9_addSample 62 = .ok (.invokevirtual 295, 3) := by decide +kernel
theorem dX9_addSample_65 : decode cX9_addSample 65 = .ok (.aload_n 0, 1) := by decide +kernel
theorem dX9_addSample_66 : decode cX9_addSample 66 = .ok (.getfield 33, 3) := by decide +kernel
theorem dX9_addSample_69 : decode cX9_addSample 69 = .ok (.getfield 254, 3) := by decide +kernel
theorem dX9_addSample_72 : decode cX9_addSample 72 = .ok (.iload_n 3, 1) := by decide +kernel
theorem dX9_addSample_73 : decode cX9_addSample 73 = .ok (.invokevirtual 295, 3) := by decide +kernel
theorem dX9_addSample_76 : decode cX9_addSample 76 = .ok (.aload_n 0, 1) := by decide +kernel
theorem dX9_addSample_77 : decode cX9_addSample 77 = .ok (.getfield 33, 3) := by decide +kernel
theorem dX9_addSample_80 : decode cX9_addSample 80 = .ok (.getfield 248, 3) := by decide +kernel
theorem dX9_addSample_83 : decode cX9_addSample 83 = .ok (.getfield 124, 3) := by decide +kernel
theorem dX9_addSample_86 : decode cX9_addSample 86 = .ok (.ireturn, 1) := by decide +kernel
def fn_X9_addSample_23 (N : Nat) (M : Mem) (a0 : Nat) (x1 : Int32) (x2 : Int32) (x3 : Int32) : Option (Int32 × Mem) :=
  (mm_gR M a0 9 5).bind fun b1 =>
  (mm_gR M b1 7 13).bind fun b2 =>
  (mm_ck M b2 6).bind fun _ => mm_b2 (fn_X6_isFull N M b2) fun v4 M3 =>
  if v4 = 0 then
    (mm_gR M3 a0 9 6).bind fun b5 =>
    (mm_gR M3 a0 9 5).bind fun b6 =>
    (mm_ck M3 b5 1).bind fun _ => mm_b2 (fn_X1_push N M3 b5 b6) fun _ M7 =>
    (mm_gR M7 a0 9 5).bind fun b8 =>
    (mm_gR M7 b8 7 13).bind fun b9 =>
    mm_b2 (fn_X9_coinOf N M7 x1 x2) fun v11 M10 =>
    (mm_ck M10 b9 6).bind fun _ => mm_b2 (fn_X6_add N M10 b9 v11) fun _ M12 =>
    (mm_gR M12 a0 9 5).bind fun b13 =>
    (mm_gR M12 b13 7 14).bind fun b14 =>
    (mm_ck M12 b14 6).bind fun _ => mm_b2 (fn_X6_add N M12 b14 x3) fun _ M15 =>
    (mm_gR M15 a0 9 5).bind fun b16 =>
    (mm_gR M15 b16 7 13).bind fun b17 =>
    (mm_gI M15 b17 6 1).bind fun v18 =>
    some (v18, M15)
  else
    some ((-3), M3)
set_option maxRecDepth 100000 in
set_option maxHeartbeats 4000000 in
theorem bk_X9_addSample_23 {Γ : Gm} {ω : Wd} {k N : Nat} {r : Int32} {M' : Mem} (C : Cx Γ cX9_addSample 4 RX9 ω 4 0 0) (hr : Γ.meth.sig.returnType = (some .int)) (M : Mem) (a0 : Nat) (x1 : Int32) (x2 : Int32) (x3 : Int32) (h : fn_X9_addSample_23 N M a0 x1 x2 x3 = some (r, M')) : JJ Γ (QF Γ ω k 0 0 (some (.int r)) M') 4 ω k M 0 0 23 [(0, .ref a0), (1, .int x1), (2, .int x2), (3, .int x3)] [] := by
  unfold fn_X9_addSample_23 at h
  refine jv_aload_n C dX9_addSample_23 rfl 0 rfl ?_
  refine jv_getR C fa_X9_33 dX9_addSample_24 h (fun b1 h => ?_)
  refine jv_getR C fa_X9_248 dX9_addSample_27 h (fun b2 h => ?_)
  refine jv_vI0 (As := []) C lk_X9_289 rfl dX9_addSample_30 rfl rfl (by decide) (by decide) (by decide) (Nat.le_of_ble_eq_true rfl) h (fun _ _ h => ct_X6_isFull h) (fun v4 M3 h => ?_)
  refine jv_if_eq (tgt := 39) C dX9_addSample_33 (by decide) h (fun h => ?_) (fun h => ?_)
  · refine jv_aload_n C dX9_addSample_39 rfl 0 rfl ?_
    refine jv_getR C fa_X9_40 dX9_addSample_40 h (fun b5 h => ?_)
    refine jv_aload_n C dX9_addSample_43 rfl 0 rfl ?_
    refine jv_getR C fa_X9_33 dX9_addSample_44 h (fun b6 h => ?_)
    refine jv_vV0 (As := [.ref b6]) C lk_X9_279 rfl dX9_addSample_47 rfl rfl (by decide) (by decide) (by decide) (Nat.le_of_ble_eq_true rfl) h (fun _ _ h => ct_X1_push h) (fun _ M7 h => ?_)
    refine jv_aload_n C dX9_addSample_50 rfl 0 rfl ?_
    refine jv_getR C fa_X9_33 dX9_addSample_51 h (fun b8 h => ?_)
    refine jv_getR C fa_X9_248 dX9_addSample_54 h (fun b9 h => ?_)
    refine jv_iload_n C dX9_addSample_57 rfl 1 rfl ?_
    refine jv_iload_n C dX9_addSample_58 rfl 2 rfl ?_
    refine jv_sI0 (As := [.int x1, .int x2]) C lk_X9_292 dX9_addSample_59 rfl rfl (by decide) (by decide) (by decide) (Nat.le_of_ble_eq_true rfl) h (fun _ _ h => ct_X9_coinOf h) (fun v11 M10 h => ?_)
    refine jv_vV0 (As := [.int v11]) C lk_X9_295 rfl dX9_addSample_62 rfl rfl (by decide) (by decide) (by decide) (Nat.le_of_ble_eq_true rfl) h (fun _ _ h => ct_X6_add h) (fun _ M12 h => ?_)
    refine jv_aload_n C dX9_addSample_65 rfl 0 rfl ?_
    refine jv_getR C fa_X9_33 dX9_addSample_66 h (fun b13 h => ?_)
    refine jv_getR C fa_X9_254 dX9_addSample_69 h (fun b14 h => ?_)
    refine jv_iload_n C dX9_addSample_72 rfl 3 rfl ?_
    refine jv_vV0 (As := [.int x3]) C lk_X9_295 rfl dX9_addSample_73 rfl rfl (by decide) (by decide) (by decide) (Nat.le_of_ble_eq_true rfl) h (fun _ _ h => ct_X6_add h) (fun _ M15 h => ?_)
    refine jv_aload_n C dX9_addSample_76 rfl 0 rfl ?_
    refine jv_getR C fa_X9_33 dX9_addSample_77 h (fun b16 h => ?_)
    refine jv_getR C fa_X9_248 dX9_addSample_80 h (fun b17 h => ?_)
    refine jv_getI C fa_X9_124 dX9_addSample_83 h (fun v18 h => ?_)
    exact jv_iret C hr dX9_addSample_86 h
  · refine jv_bipush (v := (-3)) C dX9_addSample_36 (by decide) ?_
    exact jv_iret C hr dX9_addSample_38 h
def fn_X9_addSample (N : Nat) (M : Mem) (a0 : Nat) (x1 : Int32) (x2 : Int32) (x3 : Int32) : Option (Int32 × Mem) :=
  mm_b2 (fn_X9_isMeasurement N M x1 x2) fun v2 M1 =>
  if v2 = 0 then
    some ((-1), M1)
  else
    if x3 = (-1) then
      fn_X9_addSample_23 N M1 a0 x1 x2 x3
    else
      (mm_ck M1 a0 9).bind fun _ => mm_b2 (fn_X9_isType N M1 a0 x3) fun v4 M3 =>
      if v4 = 0 then
        some ((-1), M3)
      else
        fn_X9_addSample_23 N M3 a0 x1 x2 x3
set_option maxRecDepth 100000 in
set_option maxHeartbeats 4000000 in
theorem ct_X9_addSample {l : Launch} {ω : Wd} {k N : Nat} {M : Mem} {a0 : Nat} {x1 : Int32} {x2 : Int32} {x3 : Int32} {r : Int32} {M' : Mem} (h : fn_X9_addSample N M a0 x1 x2 x3 = some (r, M')) : CM l ω k yX9_addSample cX9_addSample 4 (some .int) 4 0 0 [.ref a0, .int x1, .int x2, .int x3] M (some (.int r)) M' := by
  refine CM.of (by decide) (Nat.le_of_ble_eq_true rfl) fun Γ hl C hr hi => ?_
  subst hl
  unfold fn_X9_addSample at h
  refine jv_iload_n C dX9_addSample_0 rfl 1 rfl ?_
  refine jv_iload_n C dX9_addSample_1 rfl 2 rfl ?_
  refine jv_sI0 (As := [.int x1, .int x2]) C lk_X9_150 dX9_addSample_2 rfl rfl (by decide) (by decide) (by decide) (Nat.le_of_ble_eq_true rfl) h (fun _ _ h => ct_X9_isMeasurement h) (fun v2 M1 h => ?_)
  refine jv_if_eq (tgt := 21) C dX9_addSample_5 (by decide) h (fun h => ?_) (fun h => ?_)
  · refine jv_iconst (v := (-1)) C dX9_addSample_21 (by decide) ?_
    exact jv_iret C hr dX9_addSample_22 h
  · refine jv_iload_n C dX9_addSample_8 rfl 3 rfl ?_
    refine jv_iconst (v := (-1)) C dX9_addSample_9 (by decide) ?_
    refine jv_icmp_eq (tgt := 23) C dX9_addSample_10 (by decide) h (fun h => ?_) (fun h => ?_)
    · exact bk_X9_addSample_23 C hr _ _ _ _ _ h
    · refine jv_aload_n C dX9_addSample_13 rfl 0 rfl ?_
      refine jv_iload_n C dX9_addSample_14 rfl 3 rfl ?_
      refine jv_vI0 (As := [.int x3]) C lk_X9_139 rfl dX9_addSample_15 rfl rfl (by decide) (by decide) (by decide) (Nat.le_of_ble_eq_true rfl) h (fun _ _ h => ct_X9_isType h) (fun v4 M3 h => ?_)
      refine jv_if_ne (tgt := 23) C dX9_addSample_18 (by decide) h (fun h => ?_) (fun h => ?_)
      · exact bk_X9_addSample_23 C hr _ _ _ _ _ h
      · refine jv_iconst (v := (-1)) C dX9_addSample_21 (by decide) ?_
        exact jv_iret C hr dX9_addSample_22 h
theorem dX9_alloyOf_0 : decode cX9_alloyOf 0 = .ok (.iload_n 0, 1) := by decide +kernel
theorem dX9_alloyOf_1 : decode cX9_alloyOf 1 = .ok (.sipush 10000, 3) := by decide +kernel
theorem dX9_alloyOf_4 : decode cX9_alloyOf 4 = .ok (.irem, 1) := by decide +kernel
theorem dX9_alloyOf_5 : decode cX9_alloyOf 5 = .ok (.ireturn, 1) := by decide +kernel
def fn_X9_alloyOf (N : Nat) (M : Mem) (x0 : Int32) : Option (Int32 × Mem) :=
  (mm_rI x0 10000).bind fun v1 =>
  some (v1, M)
set_option maxRecDepth 100000 in
set_option maxHeartbeats 4000000 in
theorem ct_X9_alloyOf {l : Launch} {ω : Wd} {k N : Nat} {M : Mem} {x0 : Int32} {r : Int32} {M' : Mem} (h : fn_X9_alloyOf N M x0 = some (r, M')) : CM l ω k yX9_alloyOf cX9_alloyOf 1 (some .int) 0 0 0 [.int x0] M (some (.int r)) M' := by
  refine CM.of (by decide) (Nat.le_of_ble_eq_true rfl) fun Γ hl C hr hi => ?_
  subst hl
  unfold fn_X9_alloyOf at h
  refine jv_iload_n C dX9_alloyOf_0 rfl 0 rfl ?_
  refine jv_sipush (v := 10000) C dX9_alloyOf_1 (by decide) ?_
  refine jv_irem C dX9_alloyOf_4 h (fun v1 h => ?_)
  exact jv_iret C hr dX9_alloyOf_5 h
theorem dX9_alloyOffset_0 : decode cX9_alloyOffset 0 = .ok (.aload_n 0, 1) := by decide +kernel
theorem dX9_alloyOffset_1 : decode cX9_alloyOffset 1 = .ok (.getfield 33, 3) := by decide +kernel
theorem dX9_alloyOffset_4 : decode cX9_alloyOffset 4 = .ok (.getfield 162, 3) := by decide +kernel
theorem dX9_alloyOffset_7 : decode cX9_alloyOffset 7 = .ok (.ireturn, 1) := by decide +kernel
def fn_X9_alloyOffset (N : Nat) (M : Mem) (a0 : Nat) : Option (Int32 × Mem) :=
  (mm_gR M a0 9 5).bind fun b1 =>
  (mm_gI M b1 7 1).bind fun v2 =>
  some (v2, M)
set_option maxRecDepth 100000 in
set_option maxHeartbeats 4000000 in
theorem ct_X9_alloyOffset {l : Launch} {ω : Wd} {k N : Nat} {M : Mem} {a0 : Nat} {r : Int32} {M' : Mem} (h : fn_X9_alloyOffset N M a0 = some (r, M')) : CM l ω k yX9_alloyOffset cX9_alloyOffset 1 (some .int) 0 0 0 [.ref a0] M (some (.int r)) M' := by
  refine CM.of (by decide) (Nat.le_of_ble_eq_true rfl) fun Γ hl C hr hi => ?_
  subst hl
  unfold fn_X9_alloyOffset at h
  refine jv_aload_n C dX9_alloyOffset_0 rfl 0 rfl ?_
  refine jv_getR C fa_X9_33 dX9_alloyOffset_1 h (fun b1 h => ?_)
  refine jv_getI C fa_X9_162 dX9_alloyOffset_4 h (fun v2 h => ?_)
  exact jv_iret C hr dX9_alloyOffset_7 h
theorem dX9_appendWord_0 : decode cX9_appendWord 0 = .ok (.bipush 24, 2) := by decide +kernel
theorem dX9_appendWord_2 : decode cX9_appendWord 2 = .ok (.istore_n 2, 1) := by decide +kernel
theorem dX9_appendWord_3 : decode cX9_appendWord 3 = .ok (.iload_n 2, 1) := by decide +kernel
theorem dX9_appendWord_4 : decode cX9_appendWord 4 = .ok (.ifCond .lt 51, 3) := by decide +kernel
theorem dX9_appendWord_7 : decode cX9_appendWord 7 = .ok (.aload_n 0, 1) := by decide +kernel
theorem dX9_appendWord_8 : decode cX9_appendWord 8 = .ok (.getfield 73, 3) := by decide +kernel
theorem dX9_appendWord_11 : decode cX9_appendWord 11 = .ok (.ifCond .lt 38, 3) := by decide +kernel
theorem dX9_appendWord_14 : decode cX9_appendWord 14 = .ok (.aload_n 0, 1) := by decide +kernel
theorem dX9_appendWord_15 : decode cX9_appendWord 15 = .ok (.getfield 73, 3) := by decide +kernel
theorem dX9_appendWord_18 : decode cX9_appendWord 18 = .ok (.aload_n 0, 1) := by decide +kernel
theorem dX9_appendWord_19 : decode cX9_appendWord 19 = .ok (.getfield 9, 3) := by decide +kernel
theorem dX9_appendWord_22 : decode cX9_appendWord 22 = .ok (.arraylength, 1) := by decide +kernel
theorem dX9_appendWord_23 : decode cX9_appendWord 23 = .ok (.if_icmp .ge 26, 3) := by decide +kernel
theorem dX9_appendWord_26 : decode cX9_appendWord 26 = .ok (.aload_n 0, 1) := by decide +kernel
theorem dX9_appendWord_27 : decode cX9_appendWord 27 = .ok (.getfield 9, 3) := by decide +kernel
theorem dX9_appendWord_30 : decode cX9_appendWord 30 = .ok (.aload_n 0, 1) := by decide +kernel
theorem dX9_appendWord_31 : decode cX9_appendWord 31 = .ok (.getfield 73, 3) := by decide +kernel
theorem dX9_appendWord_34 : decode cX9_appendWord 34 = .ok (.iload_n 1, 1) := by decide +kernel
theorem dX9_appendWord_35 : decode cX9_appendWord 35 = .ok (.iload_n 2, 1) := by decide +kernel
theorem dX9_appendWord_36 : decode cX9_appendWord 36 = .ok (.ishr, 1) := by decide +kernel
theorem dX9_appendWord_37 : decode cX9_appendWord 37 = .ok (.i2b, 1) := by decide +kernel
theorem dX9_appendWord_38 : decode cX9_appendWord 38 = .ok (.bastore, 1) := by decide +kernel
theorem dX9_appendWord_39 : decode cX9_appendWord 39 = .ok (.aload_n 0, 1) := by decide +kernel
theorem dX9_appendWord_40 : decode cX9_appendWord 40 = .ok (.dup, 1) := by decide +kernel
theorem dX9_appendWord_41 : decode cX9_appendWord 41 = .ok (.getfield 73, 3) := by decide +kernel
theorem dX9_appendWord_44 : decode cX9_appendWord 44 = .ok (.iconst 1, 1) := by decide +kernel
theorem dX9_appendWord_45 : decode cX9_appendWord 45 = .ok (.iadd, 1) := by decide +kernel
theorem dX9_appendWord_46 : decode cX9_appendWord 46 = .ok (.putfield 73, 3) := by decide +kernel
theorem dX9_appendWord_49 : decode cX9_appendWord 49 = .ok (.iinc 2 (-8), 3) := by decide +kernel
theorem dX9_appendWord_52 : decode cX9_appendWord 52 = .ok (.goto (-49), 3) := by decide +kernel
theorem dX9_appendWord_55 : decode cX9_appendWord 55 = .ok (.return_, 1) := by decide +kernel
def fn_X9_appendWord_49 (N : Nat) (K3 : Mem → Nat → Int32 → Int32 → Option (Unit × Mem)) (M : Mem) (a0 : Nat) (x1 : Int32) (x2 : Int32) : Option (Unit × Mem) :=
  K3 M a0 x1 ((x2 + (-8)))
set_option maxRecDepth 100000 in
set_option maxHeartbeats 4000000 in
theorem bk_X9_appendWord_49 {Γ : Gm} {ω : Wd} {k N : Nat} {r : Unit} {M' : Mem} (C : Cx Γ cX9_appendWord 3 RX9 ω 0 0 0) (hr : Γ.meth.sig.returnType = none) {K3 : Mem → Nat → Int32 → Int32 → Option (Unit × Mem)} (hK3 : ∀ (M : Mem) (a0 : Nat) (x1 : Int32) (x2 : Int32), K3 M a0 x1 x2 = some (r, M') → JJ Γ (QF Γ ω k 0 0 none M') 3 ω k M 0 0 3 [(0, .ref a0), (1, .int x1), (2, .int x2)] []) (M : Mem) (a0 : Nat) (x1 : Int32) (x2 : Int32) (h : fn_X9_appendWord_49 N K3 M a0 x1 x2 = some (r, M')) : JJ Γ (QF Γ ω k 0 0 none M') 3 ω k M 0 0 49 [(0, .ref a0), (1, .int x1), (2, .int x2)] [] := by
  unfold fn_X9_appendWord_49 at h
  refine jv_iinc (v := (-8)) (lv' := [(2, .int (x2 + (-8))), (0, .ref a0), (1, .int x1)]) C dX9_appendWord_49 2 rfl (by decide) (by decide) rfl ?_
  refine jv_goto (tgt := 3) C dX9_appendWord_52 (by decide) ?_
  refine jv_sub [1, 2, 0] rfl ?_
  exact hK3 _ _ _ _ h
def fn_X9_appendWord_3 (N : Nat) : Nat → Mem → Nat → Int32 → Int32 → Option (Unit × Mem)
  | 0, _, _, _, _ => none
  | n + 1, M, a0, x1, x2 =>
    if x2 < 0 then
      some ((), M)
    else
      (mm_gI M a0 9 1).bind fun v1 =>
      if v1 < 0 then
        fn_X9_appendWord_49 N (fn_X9_appendWord_3 N n) M a0 x1 x2
      else
        (mm_gI M a0 9 1).bind fun v2 =>
        (mm_gR M a0 9 0).bind fun b3 =>
        (mm_aN M b3).bind fun v4 =>
        if v4 ≤ v2 then
          fn_X9_appendWord_49 N (fn_X9_appendWord_3 N n) M a0 x1 x2
        else
          (mm_gR M a0 9 0).bind fun b5 =>
          (mm_gI M a0 9 1).bind fun v6 =>
          (mm_sI M b5 2 v6 (vp_nar .byte (Int8.toInt32 (Int32.toInt8 (x1 >>> (x2 &&& 31)))))).bind fun M7 =>
          (mm_gI M7 a0 9 1).bind fun v8 =>
          (mm_pV M7 a0 9 1 (.int (v8 + 1))).bind fun M9 =>
          fn_X9_appendWord_49 N (fn_X9_appendWord_3 N n) M9 a0 x1 x2
set_option maxRecDepth 100000 in
set_option maxHeartbeats 4000000 in
theorem bk_X9_appendWord_3 {Γ : Gm} {ω : Wd} {k N : Nat} {r : Unit} {M' : Mem} (C : Cx Γ cX9_appendWord 3 RX9 ω 0 0 0) (hr : Γ.meth.sig.returnType = none) : ∀ (n : Nat) (M : Mem) (a0 : Nat) (x1 : Int32) (x2 : Int32), fn_X9_appendWord_3 N n M a0 x1 x2 = some (r, M') → JJ Γ (QF Γ ω k 0 0 none M') 3 ω k M 0 0 3 [(0, .ref a0), (1, .int x1), (2, .int x2)] [] := by
  intro n
  induction n with
  | zero => intro M a0 x1 x2 h; exact jv_no h
  | succ n ih =>
    intro M a0 x1 x2 h
    rw [fn_X9_appendWord_3.eq_2] at h
    refine jv_iload_n C dX9_appendWord_3 rfl 2 rfl ?_
    refine jv_if_lt (tgt := 55) C dX9_appendWord_4 (by decide) h (fun h => ?_) (fun h => ?_)
    · exact jv_vret C hr dX9_appendWord_55 h
    · refine jv_aload_n C dX9_appendWord_7 rfl 0 rfl ?_
      refine jv_getI C fa_X9_73 dX9_appendWord_8 h (fun v1 h => ?_)
      refine jv_if_lt (tgt := 49) C dX9_appendWord_11 (by decide) h (fun h => ?_) (fun h => ?_)
      · exact bk_X9_appendWord_49 C hr ih _ _ _ _ h
      · refine jv_aload_n C dX9_appendWord_14 rfl 0 rfl ?_
        refine jv_getI C fa_X9_73 dX9_appendWord_15 h (fun v2 h => ?_)
        refine jv_aload_n C dX9_appendWord_18 rfl 0 rfl ?_
        refine jv_getR C fa_X9_9 dX9_appendWord_19 h (fun b3 h => ?_)
        refine jv_alen C dX9_appendWord_22 h (fun v4 h => ?_)
        refine jv_icmp_ge (tgt := 49) C dX9_appendWord_23 (by decide) h (fun h => ?_) (fun h => ?_)
        · exact bk_X9_appendWord_49 C hr ih _ _ _ _ h
        · refine jv_aload_n C dX9_appendWord_26 rfl 0 rfl ?_
          refine jv_getR C fa_X9_9 dX9_appendWord_27 h (fun b5 h => ?_)
          refine jv_aload_n C dX9_appendWord_30 rfl 0 rfl ?_
          refine jv_getI C fa_X9_73 dX9_appendWord_31 h (fun v6 h => ?_)
          refine jv_iload_n C dX9_appendWord_34 rfl 1 rfl ?_
          refine jv_iload_n C dX9_appendWord_35 rfl 2 rfl ?_
          refine jv_ishr C dX9_appendWord_36 ?_
          refine jv_i2b C dX9_appendWord_37 ?_
          refine jv_bast C dX9_appendWord_38 h (fun M7 h => ?_)
          refine jv_aload_n C dX9_appendWord_39 rfl 0 rfl ?_
          refine jv_dup C dX9_appendWord_40 rfl ?_
          refine jv_getI C fa_X9_73 dX9_appendWord_41 h (fun v8 h => ?_)
          refine jv_iconst (v := 1) C dX9_appendWord_44 (by decide) ?_
          refine jv_iadd C dX9_appendWord_45 ?_
          refine jv_putI C fp_X9_73 dX9_appendWord_46 h (fun M9 h => ?_)
          exact bk_X9_appendWord_49 C hr ih _ _ _ _ h
def fn_X9_appendWord (N : Nat) (M : Mem) (a0 : Nat) (x1 : Int32) : Option (Unit × Mem) :=
  fn_X9_appendWord_3 N N M a0 x1 24
set_option maxRecDepth 100000 in
set_option maxHeartbeats 4000000 in
theorem ct_X9_appendWord {l : Launch} {ω : Wd} {k N : Nat} {M : Mem} {a0 : Nat} {x1 : Int32} {r : Unit} {M' : Mem} (h : fn_X9_appendWord N M a0 x1 = some (r, M')) : CM l ω k yX9_appendWord cX9_appendWord 3 none 0 0 0 [.ref a0, .int x1] M none M' := by
  refine CM.of (by decide) (Nat.le_of_ble_eq_true rfl) fun Γ hl C hr hi => ?_
  subst hl
  unfold fn_X9_appendWord at h
  refine jv_bipush (v := 24) C dX9_appendWord_0 (by decide) ?_
  refine jv_istore_n (lv' := [(2, .int 24), (0, .ref a0), (1, .int x1)]) C dX9_appendWord_2 rfl (by decide) rfl ?_
  refine jv_sub [1, 2, 0] rfl ?_
  exact bk_X9_appendWord_3 C hr _ _ _ _ _ h
theorem dX9_append_0 : decode cX9_append 0 = .ok (.aload_n 0, 1) := by decide +kernel
theorem dX9_append_1 : decode cX9_append 1 = .ok (.getfield 73, 3) := by decide +kernel
theorem dX9_append_4 : decode cX9_append 4 = .ok (.sipush 780, 3) := by decide +kernel
theorem dX9_append_7 : decode cX9_append 7 = .ok (.if_icmp .le 6, 3) := by decide +kernel
theorem dX9_append_10 : decode cX9_append 10 = .ok (.bipush (-3), 2) := by decide +kernel
theorem dX9_append_12 : decode cX9_append 12 = .ok (.ireturn, 1) := by decide +kernel
theorem dX9_append_13 : decode cX9_append 13 = .ok (.aload_n 0, 1) := by decide +kernel
theorem dX9_append_14 : decode cX9_append 14 = .ok (.iload_n 1, 1) := by decide +kernel
theorem dX9_append_15 : decode cX9_append 15 = .ok (.invokevirtual 77, 3) := by decide +kernel
theorem dX9_append_18 : decode cX9_append 18 = .ok (.aload_n 0, 1) := by decide +kernel
theorem dX9_append_19 : decode cX9_append 19 = .ok (.iload_n 2, 1) := by decide +kernel
theorem dX9_append_20 : decode cX9_append 20 = .ok (.invokevirtual 77, 3) := by decide +kernel
theorem dX9_append_23 : decode cX9_append 23 = .ok (.aload_n 0, 1) := by decide +kernel
theorem dX9_append_24 : decode cX9_append 24 = .ok (.iload_n 3, 1) := by decide +kernel
theorem dX9_append_25 : decode cX9_append 25 = .ok (.invokevirtual 77, 3) := by decide +kernel
theorem dX9_append_28 : decode cX9_append 28 = .ok (.aload_n 0, 1) := by decide +kernel
theorem dX9_append_29 : decode cX9_append 29 = .ok (.iload 4, 2) := by decide +kernel
theorem dX9_append_31 : decode cX9_append 31 = .ok (.invokevirtual 77, 3) := by decide +kernel
theorem dX9_append_34 : decode cX9_append 34 = .ok (.aload_n 0, 1) := by decide +kernel
theorem dX9_append_35 : decode cX9_append 35 = .ok (.iload 5, 2) := by decide +kernel
theorem dX9_append_37 : decode cX9_append 37 = .ok (.invokevirtual 77, 3) := by decide +kernel
theorem dX9_append_40 : decode cX9_append 40 = .ok (.aload_n 0, 1) := by decide +kernel
theorem dX9_append_41 : decode cX9_append 41 = .ok (.getfield 73, 3) := by decide +kernel
theorem dX9_append_44 : decode cX9_append 44 = .ok (.ireturn, 1) := by decide +kernel
def fn_X9_append (N : Nat) (M : Mem) (a0 : Nat) (x1 : Int32) (x2 : Int32) (x3 : Int32) (x4 : Int32) (x5 : Int32) : Option (Int32 × Mem) :=
  (mm_gI M a0 9 1).bind fun v1 =>
  if v1 ≤ 780 then
    (mm_ck M a0 9).bind fun _ => mm_b2 (fn_X9_appendWord N M a0 x1) fun _ M2 =>
    (mm_ck M2 a0 9).bind fun _ => mm_b2 (fn_X9_appendWord N M2 a0 x2) fun _ M3 =>
    (mm_ck M3 a0 9).bind fun _ => mm_b2 (fn_X9_appendWord N M3 a0 x3) fun _ M4 =>
    (mm_ck M4 a0 9).bind fun _ => mm_b2 (fn_X9_appendWord N M4 a0 x4) fun _ M5 =>
    (mm_ck M5 a0 9).bind fun _ => mm_b2 (fn_X9_appendWord N M5 a0 x5) fun _ M6 =>
    (mm_gI M6 a0 9 1).bind fun v7 =>
    some (v7, M6)
  else
    some ((-3), M)
set_option maxRecDepth 100000 in
set_option maxHeartbeats 4000000 in
theorem ct_X9_append {l : Launch} {ω : Wd} {k N : Nat} {M : Mem} {a0 : Nat} {x1 : Int32} {x2 : Int32} {x3 : Int32} {x4 : Int32} {x5 : Int32} {r : Int32} {M' : Mem} (h : fn_X9_append N M a0 x1 x2 x3 x4 x5 = some (r, M')) : CM l ω k yX9_append cX9_append 6 (some .int) 1 0 0 [.ref a0, .int x1, .int x2, .int x3, .int x4, .int x5] M (some (.int r)) M' := by
  refine CM.of (by decide) (Nat.le_of_ble_eq_true rfl) fun Γ hl C hr hi => ?_
  subst hl
  unfold fn_X9_append at h
  refine jv_aload_n C dX9_append_0 rfl 0 rfl ?_
  refine jv_getI C fa_X9_73 dX9_append_1 h (fun v1 h => ?_)
  refine jv_sipush (v := 780) C dX9_append_4 (by decide) ?_
  refine jv_icmp_le (tgt := 13) C dX9_append_7 (by decide) h (fun h => ?_) (fun h => ?_)
  · refine jv_aload_n C dX9_append_13 rfl 0 rfl ?_
    refine jv_iload_n C dX9_append_14 rfl 1 rfl ?_
    refine jv_vV0 (As := [.int x1]) C lk_X9_77 rfl dX9_append_15 rfl rfl (by decide) (by decide) (by decide) (Nat.le_of_ble_eq_true rfl) h (fun _ _ h => ct_X9_appendWord h) (fun _ M2 h => ?_)
    refine jv_aload_n C dX9_append_18 rfl 0 rfl ?_
    refine jv_iload_n C dX9_append_19 rfl 2 rfl ?_
    refine jv_vV0 (As := [.int x2]) C lk_X9_77 rfl dX9_append_20 rfl rfl (by decide) (by decide) (by decide) (Nat.le_of_ble_eq_true rfl) h (fun _ _ h => ct_X9_appendWord h) (fun _ M3 h => ?_)
    refine jv_aload_n C dX9_append_23 rfl 0 rfl ?_
    refine jv_iload_n C dX9_append_24 rfl 3 rfl ?_
    refine jv_vV0 (As := [.int x3]) C lk_X9_77 rfl dX9_append_25 rfl rfl (by decide) (by decide) (by decide) (Nat.le_of_ble_eq_true rfl) h (fun _ _ h => ct_X9_appendWord h) (fun _ M4 h => ?_)
    refine jv_aload_n C dX9_append_28 rfl 0 rfl ?_
    refine jv_iload C dX9_append_29 4 rfl ?_
    refine jv_vV0 (As := [.int x4]) C lk_X9_77 rfl dX9_append_31 rfl rfl (by decide) (by decide) (by decide) (Nat.le_of_ble_eq_true rfl) h (fun _ _ h => ct_X9_appendWord h) (fun _ M5 h => ?_)
    refine jv_aload_n C dX9_append_34 rfl 0 rfl ?_
    refine jv_iload C dX9_append_35 5 rfl ?_
    refine jv_vV0 (As := [.int x5]) C lk_X9_77 rfl dX9_append_37 rfl rfl (by decide) (by decide) (by decide) (Nat.le_of_ble_eq_true rfl) h (fun _ _ h => ct_X9_appendWord h) (fun _ M6 h => ?_)
    refine jv_aload_n C dX9_append_40 rfl 0 rfl ?_
    refine jv_getI C fa_X9_73 dX9_append_41 h (fun v7 h => ?_)
    exact jv_iret C hr dX9_append_44 h
  · refine jv_bipush (v := (-3)) C dX9_append_10 (by decide) ?_
    exact jv_iret C hr dX9_append_12 h
theorem dX9_audit_0 : decode cX9_audit 0 = .ok (.aload_n 0, 1) := by decide +kernel
theorem dX9_audit_1 : decode cX9_audit 1 = .ok (.getfield 33, 3) := by decide +kernel
theorem dX9_audit_4 : decode cX9_audit 4 = .ok (.getfield 214, 3) := by decide +kernel
theorem dX9_audit_7 : decode cX9_audit 7 = .ok (.iload_n 1, 1) := by decide +kernel
theorem dX9_audit_8 : decode cX9_audit 8 = .ok (.invokevirtual 183, 3) := by decide +kernel
theorem dX9_audit_11 : decode cX9_audit 11 = .ok (.ifCond .ne 14, 3) := by decide +kernel
theorem dX9_audit_14 : decode cX9_audit 14 = .ok (.new 143, 3) := by decide +kernel
theorem dX9_audit_17 : decode cX9_audit 17 = .ok (.dup, 1) := by decide +kernel
theorem dX9_audit_18 : decode cX9_audit 18 = .ok (.ldc_w 327, 3) := by decide +kernel
theorem dX9_audit_21 : decode cX9_audit 21 = .ok (.invokespecial 147, 3) := by decide +kernel
theorem dX9_audit_24 : decode cX9_audit 24 = .ok (.athrow, 1) := by decide +kernel
theorem dX9_audit_25 : decode cX9_audit 25 = .ok (.iload_n 2, 1) := by decide +kernel
theorem dX9_audit_26 : decode cX9_audit 26 = .ok (.ifCond .lt 10, 3) := by decide +kernel
theorem dX9_audit_29 : decode cX9_audit 29 = .ok (.iload_n 2, 1) := by decide +kernel
theorem dX9_audit_30 : decode cX9_audit 30 = .ok (.sipush 200, 3) := by decide +kernel
theorem dX9_audit_33 : decode cX9_audit 33 = .ok (.if_icmp .le 14, 3) := by decide +kernel
theorem dX9_audit_36 : decode cX9_audit 36 = .ok (.new 154, 3) := by decide +kernel
theorem dX9_audit_39 : decode cX9_audit 39 = .ok (.dup, 1) := by decide +kernel
theorem dX9_audit_40 : decode cX9_audit 40 = .ok (.ldc_w 329, 3) := by decide +kernel
theorem dX9_audit_43 : decode cX9_audit 43 = .ok (.invokespecial 158, 3) := by decide +kernel
theorem dX9_audit_46 : decode cX9_audit 46 = .ok (.athrow, 1) := by decide +kernel
theorem dX9_audit_47 : decode cX9_audit 47 = .ok (.aload_n 0, 1) := by decide +kernel
theorem dX9_audit_48 : decode cX9_audit 48 = .ok (.getfield 33, 3) := by decide +kernel
theorem dX9_audit_51 : decode cX9_audit 51 = .ok (.getfield 223, 3) := by decide +kernel
theorem dX9_audit_54 : decode cX9_audit 54 = .ok (.iload_n 1, 1) := by decide +kernel
theorem dX9_audit_55 : decode cX9_audit 55 = .ok (.invokevirtual 132, 3) := by decide +kernel
theorem dX9_audit_58 : decode cX9_audit 58 = .ok (.iconst (-1), 1) := by decide +kernel
theorem dX9_audit_59 : decode cX9_audit 59 = .ok (.if_icmp .eq 14, 3) := by decide +kernel
theorem dX9_audit_62 : decode cX9_audit 62 = .ok (.new 331, 3) := by decide +kernel
theorem dX9_audit_65 : decode cX9_audit 65 = .ok (.dup, 1) := by decide +kernel
theorem dX9_audit_66 : decode cX9_audit 66 = .ok (.ldc_w 333, 3) := by decide +kernel
theorem dX9_audit_69 : decode cX9_audit 69 = .ok (.invokespecial 335, 3) := by decide +kernel
theorem dX9_audit_72 : decode cX9_audit 72 = .ok (.athrow, 1) := by decide +kernel
theorem dX9_audit_73 : decode cX9_audit 73 = .ok (.aload_n 0, 1) := by decide +kernel
theorem dX9_audit_74 : decode cX9_audit 74 = .ok (.getfield 40, 3) := by decide +kernel
theorem dX9_audit_77 : decode cX9_audit 77 = .ok (.aload_n 0, 1) := by decide +kernel
theorem dX9_audit_78 : decode cX9_audit 78 = .ok (.getfield 33, 3) := by decide +kernel
theorem dX9_audit_81 : decode cX9_audit 81 = .ok (.invokevirtual 279, 3) := by decide +kernel
theorem dX9_audit_84 : decode cX9_audit 84 = .ok (.aload_n 0, 1) := by decide +kernel
theorem dX9_audit_85 : decode cX9_audit 85 = .ok (.getfield 33, 3) := by decide +kernel
theorem dX9_audit_88 : decode cX9_audit 88 = .ok (.getfield 223, 3) := by decide +kernel
theorem dX9_audit_91 : decode cX9_audit 91 = .ok (.iload_n 1, 1) := by decide +kernel
theorem dX9_audit_92 : decode cX9_audit 92 = .ok (.iload_n 2, 1) := by decide +kernel
theorem dX9_audit_93 : decode cX9_audit 93 = .ok (.invokevirtual 336, 3) := by decide +kernel
theorem dX9_audit_96 : decode cX9_audit 96 = .ok (.iload_n 2, 1) := by decide +kernel
theorem dX9_audit_97 : decode cX9_audit 97 = .ok (.aload_n 0, 1) := by decide +kernel
theorem dX9_audit_98 : decode cX9_audit 98 = .ok (.getfield 33, 3) := by decide +kernel
theorem dX9_audit_101 : decode cX9_audit 101 = .ok (.getfield 217, 3) := by decide +kernel
theorem dX9_audit_104 : decode cX9_audit 104 = .ok (.iload_n 1, 1) := by decide +kernel
theorem dX9_audit_105 : decode cX9_audit 105 = .ok (.invokevirtual 132, 3) := by decide +kernel
theorem dX9_audit_108 : decode cX9_audit 108 = .ok (.isub, 1) := by decide +kernel
theorem dX9_audit_109 : decode cX9_audit 109 = .ok (.ireturn, 1) := by decide +kernel
def fn_X9_audit (N : Nat) (M : Mem) (a0 : Nat) (x1 : Int32) (x2 : Int32) : Option (Int32 × Mem) :=
  (mm_gR M a0 9 5).bind fun b1 =>
  (mm_gR M b1 7 10).bind fun b2 =>
  (mm_ck M b2 6).bind fun _ => mm_b2 (fn_X6_has N M b2 x1) fun v4 M3 =>
  if v4 = 0 then
    none
  else
    if x2 < 0 then
      none
    else
      if x2 ≤ 200 then
        (mm_gR M3 a0 9 5).bind fun b5 =>
        (mm_gR M3 b5 7 12).bind fun b6 =>
        (mm_ck M3 b6 6).bind fun _ => mm_b2 (fn_X6_at N M3 b6 x1) fun v8 M7 =>
        if v8 = (-1) then
          (mm_gR M7 a0 9 6).bind fun b9 =>
          (mm_gR M7 a0 9 5).bind fun b10 =>
          (mm_ck M7 b9 1).bind fun _ => mm_b2 (fn_X1_push N M7 b9 b10) fun _ M11 =>
          (mm_gR M11 a0 9 5).bind fun b12 =>
          (mm_gR M11 b12 7 12).bind fun b13 =>
          (mm_ck M11 b13 6).bind fun _ => mm_b2 (fn_X6_put N M11 b13 x1 x2) fun _ M14 =>
          (mm_gR M14 a0 9 5).bind fun b15 =>
          (mm_gR M14 b15 7 11).bind fun b16 =>
          (mm_ck M14 b16 6).bind fun _ => mm_b2 (fn_X6_at N M14 b16 x1) fun v18 M17 =>
          some ((x2 - v18), M17)
        else
          none
      else
        none
set_option maxRecDepth 100000 in
set_option maxHeartbeats 4000000 in
theorem ct_X9_audit {l : Launch} {ω : Wd} {k N : Nat} {M : Mem} {a0 : Nat} {x1 : Int32} {x2 : Int32} {r : Int32} {M' : Mem} (h : fn_X9_audit N M a0 x1 x2 = some (r, M')) : CM l ω k yX9_audit cX9_audit 3 (some .int) 4 0 0 [.ref a0, .int x1, .int x2] M (some (.int r)) M' := by
  refine CM.of (by decide) (Nat.le_of_ble_eq_true rfl) fun Γ hl C hr hi => ?_
  subst hl
  unfold fn_X9_audit at h
  refine jv_aload_n C dX9_audit_0 rfl 0 rfl ?_
  refine jv_getR C fa_X9_33 dX9_audit_1 h (fun b1 h => ?_)
  refine jv_getR C fa_X9_214 dX9_audit_4 h (fun b2 h => ?_)
  refine jv_iload_n C dX9_audit_7 rfl 1 rfl ?_
  refine jv_vI0 (As := [.int x1]) C lk_X9_183 rfl dX9_audit_8 rfl rfl (by decide) (by decide) (by decide) (Nat.le_of_ble_eq_true rfl) h (fun _ _ h => ct_X6_has h) (fun v4 M3 h => ?_)
  refine jv_if_ne (tgt := 25) C dX9_audit_11 (by decide) h (fun h => ?_) (fun h => ?_)
  · refine jv_iload_n C dX9_audit_25 rfl 2 rfl ?_
    refine jv_if_lt (tgt := 36) C dX9_audit_26 (by decide) h (fun h => ?_) (fun h => ?_)
    · exact jv_no h
    · refine jv_iload_n C dX9_audit_29 rfl 2 rfl ?_
      refine jv_sipush (v := 200) C dX9_audit_30 (by decide) ?_
      refine jv_icmp_le (tgt := 47) C dX9_audit_33 (by decide) h (fun h => ?_) (fun h => ?_)
      · refine jv_aload_n C dX9_audit_47 rfl 0 rfl ?_
        refine jv_getR C fa_X9_33 dX9_audit_48 h (fun b5 h => ?_)
        refine jv_getR C fa_X9_223 dX9_audit_51 h (fun b6 h => ?_)
        refine jv_iload_n C dX9_audit_54 rfl 1 rfl ?_
        refine jv_vI0 (As := [.int x1]) C lk_X9_132 rfl dX9_audit_55 rfl rfl (by decide) (by decide) (by decide) (Nat.le_of_ble_eq_true rfl) h (fun _ _ h => ct_X6_at h) (fun v8 M7 h => ?_)
        refine jv_iconst (v := (-1)) C dX9_audit_58 (by decide) ?_
        refine jv_icmp_eq (tgt := 73) C dX9_audit_59 (by decide) h (fun h => ?_) (fun h => ?_)
        · refine jv_aload_n C dX9_audit_73 rfl 0 rfl ?_
          refine jv_getR C fa_X9_40 dX9_audit_74 h (fun b9 h => ?_)
          refine jv_aload_n C dX9_audit_77 rfl 0 rfl ?_
          refine jv_getR C fa_X9_33 dX9_audit_78 h (fun b10 h => ?_)
          refine jv_vV0 (As := [.ref b10]) C lk_X9_279 rfl dX9_audit_81 rfl rfl (by decide) (by decide) (by decide) (Nat.le_of_ble_eq_true rfl) h (fun _ _ h => ct_X1_push h) (fun _ M11 h => ?_)
          refine jv_aload_n C dX9_audit_84 rfl 0 rfl ?_
          refine jv_getR C fa_X9_33 dX9_audit_85 h (fun b12 h => ?_)
          refine jv_getR C fa_X9_223 dX9_audit_88 h (fun b13 h => ?_)
          refine jv_iload_n C dX9_audit_91 rfl 1 rfl ?_
          refine jv_iload_n C dX9_audit_92 rfl 2 rfl ?_
          refine jv_vV0 (As := [.int x1, .int x2]) C lk_X9_336 rfl dX9_audit_93 rfl rfl (by decide) (by decide) (by decide) (Nat.le_of_ble_eq_true rfl) h (fun _ _ h => ct_X6_put h) (fun _ M14 h => ?_)
          refine jv_iload_n C dX9_audit_96 rfl 2 rfl ?_
          refine jv_aload_n C dX9_audit_97 rfl 0 rfl ?_
          refine jv_getR C fa_X9_33 dX9_audit_98 h (fun b15 h => ?_)
          refine jv_getR C fa_X9_217 dX9_audit_101 h (fun b16 h => ?_)
          refine jv_iload_n C dX9_audit_104 rfl 1 rfl ?_
          refine jv_vI0 (As := [.int x1]) C lk_X9_132 rfl dX9_audit_105 rfl rfl (by decide) (by decide) (by decide) (Nat.le_of_ble_eq_true rfl) h (fun _ _ h => ct_X6_at h) (fun v18 M17 h => ?_)
          refine jv_isub C dX9_audit_108 ?_
          exact jv_iret C hr dX9_audit_109 h
        · exact jv_no h
      · exact jv_no h
  · exact jv_no h
theorem dX9_bagCoins_0 : decode cX9_bagCoins 0 = .ok (.aload_n 0, 1) := by decide +kernel
theorem dX9_bagCoins_1 : decode cX9_bagCoins 1 = .ok (.getfield 33, 3) := by decide +kernel
theorem dX9_bagCoins_4 : decode cX9_bagCoins 4 = .ok (.getfield 217, 3) := by decide +kernel
theorem dX9_bagCoins_7 : decode cX9_bagCoins 7 = .ok (.iload_n 1, 1) := by decide +kernel
theorem dX9_bagCoins_8 : decode cX9_bagCoins 8 = .ok (.invokevirtual 132, 3) := by decide +kernel
theorem dX9_bagCoins_11 : decode cX9_bagCoins 11 = .ok (.ireturn, 1) := by decide +kernel
def fn_X9_bagCoins (N : Nat) (M : Mem) (a0 : Nat) (x1 : Int32) : Option (Int32 × Mem) :=
  (mm_gR M a0 9 5).bind fun b1 =>
  (mm_gR M b1 7 11).bind fun b2 =>
  (mm_ck M b2 6).bind fun _ => mm_b2 (fn_X6_at N M b2 x1) fun v4 M3 =>
  some (v4, M3)
set_option maxRecDepth 100000 in
set_option maxHeartbeats 4000000 in
theorem ct_X9_bagCoins {l : Launch} {ω : Wd} {k N : Nat} {M : Mem} {a0 : Nat} {x1 : Int32} {r : Int32} {M' : Mem} (h : fn_X9_bagCoins N M a0 x1 = some (r, M')) : CM l ω k yX9_bagCoins cX9_bagCoins 2 (some .int) 1 0 0 [.ref a0, .int x1] M (some (.int r)) M' := by
  refine CM.of (by decide) (Nat.le_of_ble_eq_true rfl) fun Γ hl C hr hi => ?_
  subst hl
  unfold fn_X9_bagCoins at h
  refine jv_aload_n C dX9_bagCoins_0 rfl 0 rfl ?_
  refine jv_getR C fa_X9_33 dX9_bagCoins_1 h (fun b1 h => ?_)
  refine jv_getR C fa_X9_217 dX9_bagCoins_4 h (fun b2 h => ?_)
  refine jv_iload_n C dX9_bagCoins_7 rfl 1 rfl ?_
  refine jv_vI0 (As := [.int x1]) C lk_X9_132 rfl dX9_bagCoins_8 rfl rfl (by decide) (by decide) (by decide) (Nat.le_of_ble_eq_true rfl) h (fun _ _ h => ct_X6_at h) (fun v4 M3 h => ?_)
  exact jv_iret C hr dX9_bagCoins_11 h
theorem dX9_bagCount_0 : decode cX9_bagCount 0 = .ok (.aload_n 0, 1) := by decide +kernel
theorem dX9_bagCount_1 : decode cX9_bagCount 1 = .ok (.getfield 33, 3) := by decide +kernel
theorem dX9_bagCount_4 : decode cX9_bagCount 4 = .ok (.getfield 214, 3) := by decide +kernel
theorem dX9_bagCount_7 : decode cX9_bagCount 7 = .ok (.getfield 124, 3) := by decide +kernel
theorem dX9_bagCount_10 : decode cX9_bagCount 10 = .ok (.ireturn, 1) := by decide +kernel
def fn_X9_bagCount (N : Nat) (M : Mem) (a0 : Nat) : Option (Int32 × Mem) :=
  (mm_gR M a0 9 5).bind fun b1 =>
  (mm_gR M b1 7 10).bind fun b2 =>
  (mm_gI M b2 6 1).bind fun v3 =>
  some (v3, M)
set_option maxRecDepth 100000 in
set_option maxHeartbeats 4000000 in
theorem ct_X9_bagCount {l : Launch} {ω : Wd} {k N : Nat} {M : Mem} {a0 : Nat} {r : Int32} {M' : Mem} (h : fn_X9_bagCount N M a0 = some (r, M')) : CM l ω k yX9_bagCount cX9_bagCount 1 (some .int) 0 0 0 [.ref a0] M (some (.int r)) M' := by
  refine CM.of (by decide) (Nat.le_of_ble_eq_true rfl) fun Γ hl C hr hi => ?_
  subst hl
  unfold fn_X9_bagCount at h
  refine jv_aload_n C dX9_bagCount_0 rfl 0 rfl ?_
  refine jv_getR C fa_X9_33 dX9_bagCount_1 h (fun b1 h => ?_)
  refine jv_getR C fa_X9_214 dX9_bagCount_4 h (fun b2 h => ?_)
  refine jv_getI C fa_X9_124 dX9_bagCount_7 h (fun v3 h => ?_)
  exact jv_iret C hr dX9_bagCount_10 h
theorem dX9_bagSize_0 : decode cX9_bagSize 0 = .ok (.aload_n 0, 1) := by decide +kernel
theorem dX9_bagSize_1 : decode cX9_bagSize 1 = .ok (.getfield 23, 3) := by decide +kernel
theorem dX9_bagSize_4 : decode cX9_bagSize 4 = .ok (.getfield 136, 3) := by decide +kernel
theorem dX9_bagSize_7 : decode cX9_bagSize 7 = .ok (.iload_n 1, 1) := by decide +kernel
theorem dX9_bagSize_8 : decode cX9_bagSize 8 = .ok (.invokevirtual 132, 3) := by decide +kernel
theorem dX9_bagSize_11 : decode cX9_bagSize 11 = .ok (.ireturn, 1) := by decide +kernel
def fn_X9_bagSize (N : Nat) (M : Mem) (a0 : Nat) (x1 : Int32) : Option (Int32 × Mem) :=
  (mm_gR M a0 9 3).bind fun b1 =>
  (mm_gR M b1 0 3).bind fun b2 =>
  (mm_ck M b2 6).bind fun _ => mm_b2 (fn_X6_at N M b2 x1) fun v4 M3 =>
  some (v4, M3)
set_option maxRecDepth 100000 in
set_option maxHeartbeats 4000000 in
theorem ct_X9_bagSize {l : Launch} {ω : Wd} {k N : Nat} {M : Mem} {a0 : Nat} {x1 : Int32} {r : Int32} {M' : Mem} (h : fn_X9_bagSize N M a0 x1 = some (r, M')) : CM l ω k yX9_bagSize cX9_bagSize 2 (some .int) 1 0 0 [.ref a0, .int x1] M (some (.int r)) M' := by
  refine CM.of (by decide) (Nat.le_of_ble_eq_true rfl) fun Γ hl C hr hi => ?_
  subst hl
  unfold fn_X9_bagSize at h
  refine jv_aload_n C dX9_bagSize_0 rfl 0 rfl ?_
  refine jv_getR C fa_X9_23 dX9_bagSize_1 h (fun b1 h => ?_)
  refine jv_getR C fa_X9_136 dX9_bagSize_4 h (fun b2 h => ?_)
  refine jv_iload_n C dX9_bagSize_7 rfl 1 rfl ?_
  refine jv_vI0 (As := [.int x1]) C lk_X9_132 rfl dX9_bagSize_8 rfl rfl (by decide) (by decide) (by decide) (Nat.le_of_ble_eq_true rfl) h (fun _ _ h => ct_X6_at h) (fun v4 M3 h => ?_)
  exact jv_iret C hr dX9_bagSize_11 h
theorem dX9_bagType_0 : decode cX9_bagType 0 = .ok (.aload_n 0, 1) := by decide +kernel
theorem dX9_bagType_1 : decode cX9_bagType 1 = .ok (.getfield 33, 3) := by decide +kernel
theorem dX9_bagType_4 : decode cX9_bagType 4 = .ok (.getfield 214, 3) := by decide +kernel
theorem dX9_bagType_7 : decode cX9_bagType 7 = .ok (.iload_n 1, 1) := by decide +kernel
theorem dX9_bagType_8 : decode cX9_bagType 8 = .ok (.invokevirtual 132, 3) := by decide +kernel
theorem dX9_bagType_11 : decode cX9_bagType 11 = .ok (.ireturn, 1) := by decide +kernel
def fn_X9_bagType (N : Nat) (M : Mem) (a0 : Nat) (x1 : Int32) : Option (Int32 × Mem) :=
  (mm_gR M a0 9 5).bind fun b1 =>
  (mm_gR M b1 7 10).bind fun b2 =>
  (mm_ck M b2 6).bind fun _ => mm_b2 (fn_X6_at N M b2 x1) fun v4 M3 =>
  some (v4, M3)
set_option maxRecDepth 100000 in
set_option maxHeartbeats 4000000 in
theorem ct_X9_bagType {l : Launch} {ω : Wd} {k N : Nat} {M : Mem} {a0 : Nat} {x1 : Int32} {r : Int32} {M' : Mem} (h : fn_X9_bagType N M a0 x1 = some (r, M')) : CM l ω k yX9_bagType cX9_bagType 2 (some .int) 1 0 0 [.ref a0, .int x1] M (some (.int r)) M' := by
  refine CM.of (by decide) (Nat.le_of_ble_eq_true rfl) fun Γ hl C hr hi => ?_
  subst hl
  unfold fn_X9_bagType at h
  refine jv_aload_n C dX9_bagType_0 rfl 0 rfl ?_
  refine jv_getR C fa_X9_33 dX9_bagType_1 h (fun b1 h => ?_)
  refine jv_getR C fa_X9_214 dX9_bagType_4 h (fun b2 h => ?_)
  refine jv_iload_n C dX9_bagType_7 rfl 1 rfl ?_
  refine jv_vI0 (As := [.int x1]) C lk_X9_132 rfl dX9_bagType_8 rfl rfl (by decide) (by decide) (by decide) (Nat.le_of_ble_eq_true rfl) h (fun _ _ h => ct_X6_at h) (fun v4 M3 h => ?_)
  exact jv_iret C hr dX9_bagType_11 h
theorem dX9_diameterOf_0 : decode cX9_diameterOf 0 = .ok (.iload_n 0, 1) := by decide +kernel
theorem dX9_diameterOf_1 : decode cX9_diameterOf 1 = .ok (.sipush 10000, 3) := by decide +kernel
theorem dX9_diameterOf_4 : decode cX9_diameterOf 4 = .ok (.idiv, 1) := by decide +kernel
theorem dX9_diameterOf_5 : decode cX9_diameterOf 5 = .ok (.ireturn, 1) := by decide +kernel
def fn_X9_diameterOf (N : Nat) (M : Mem) (x0 : Int32) : Option (Int32 × Mem) :=
  (mm_dI x0 10000).bind fun v1 =>
  some (v1, M)
set_option maxRecDepth 100000 in
set_option maxHeartbeats 4000000 in
theorem ct_X9_diameterOf {l : Launch} {ω : Wd} {k N : Nat} {M : Mem} {x0 : Int32} {r : Int32} {M' : Mem} (h : fn_X9_diameterOf N M x0 = some (r, M')) : CM l ω k yX9_diameterOf cX9_diameterOf 1 (some .int) 0 0 0 [.int x0] M (some (.int r)) M' := by
  refine CM.of (by decide) (Nat.le_of_ble_eq_true rfl) fun Γ hl C hr hi => ?_
  subst hl
  unfold fn_X9_diameterOf at h
  refine jv_iload_n C dX9_diameterOf_0 rfl 0 rfl ?_
  refine jv_sipush (v := 10000) C dX9_diameterOf_1 (by decide) ?_
  refine jv_idiv C dX9_diameterOf_4 h (fun v1 h => ?_)
  exact jv_iret C hr dX9_diameterOf_5 h
theorem dX9_verdict_0 : decode cX9_verdict 0 = .ok (.aload_n 0, 1) := by decide +kernel
theorem dX9_verdict_1 : decode cX9_verdict 1 = .ok (.getfield 55, 3) := by decide +kernel
theorem dX9_verdict_4 : decode cX9_verdict 4 = .ok (.aload_n 0, 1) := by decide +kernel
theorem dX9_verdict_5 : decode cX9_verdict 5 = .ok (.getfield 23, 3) := by decide +kernel
theorem dX9_verdict_8 : decode cX9_verdict 8 = .ok (.iload_n 1, 1) := by decide +kernel
theorem dX9_verdict_9 : decode cX9_verdict 9 = .ok (.aload_n 0, 1) := by decide +kernel
theorem dX9_verdict_10 : decode cX9_verdict 10 = .ok (.getfield 33, 3) := by decide +kernel
theorem dX9_verdict_13 : decode cX9_verdict 13 = .ok (.getfield 159, 3) := by decide +kernel
theorem dX9_verdict_16 : decode cX9_verdict 16 = .ok (.iadd, 1) := by decide +kernel
theorem dX9_verdict_17 : decode cX9_verdict 17 = .ok (.iload_n 2, 1) := by decide +kernel
theorem dX9_verdict_18 : decode cX9_verdict 18 = .ok (.aload_n 0, 1) := by decide +kernel
theorem dX9_verdict_19 : decode cX9_verdict 19 = .ok (.getfield 33, 3) := by decide +kernel
theorem dX9_verdict_22 : decode cX9_verdict 22 = .ok (.getfield 162, 3) := by decide +kernel
theorem dX9_verdict_25 : decode cX9_verdict 25 = .ok (.iadd, 1) := by decide +kernel
theorem dX9_verdict_26 : decode cX9_verdict 26 = .ok (.invokevirtual 176, 3) := by decide +kernel
theorem dX9_verdict_29 : decode cX9_verdict 29 = .ok (.aload_n 0, 1) := by decide +kernel
theorem dX9_verdict_30 : decode cX9_verdict 30 = .ok (.getfield 55, 3) := by decide +kernel
theorem dX9_verdict_33 : decode cX9_verdict 33 = .ok (.iload_n 3, 1) := by decide +kernel
theorem dX9_verdict_34 : decode cX9_verdict 34 = .ok (.invokevirtual 180, 3) := by decide +kernel
theorem dX9_verdict_37 : decode cX9_verdict 37 = .ok (.ireturn, 1) := by decide +kernel
def fn_X9_verdict (N : Nat) (M : Mem) (a0 : Nat) (x1 : Int32) (x2 : Int32) (x3 : Int32) : Option (Int32 × Mem) :=
  (mm_gR M a0 9 9).bind fun b1 =>
  (mm_gR M a0 9 3).bind fun b2 =>
  (mm_gR M a0 9 5).bind fun b3 =>
  (mm_gI M b3 7 0).bind fun v4 =>
  (mm_gR M a0 9 5).bind fun b5 =>
  (mm_gI M b5 7 1).bind fun v6 =>
  (mm_ck M b1 2).bind fun _ => mm_b2 (fn_X2_examine N M b1 b2 ((x1 + v4)) ((x2 + v6))) fun _ M7 =>
  (mm_gR M7 a0 9 9).bind fun b8 =>
  (mm_ck M7 b8 2).bind fun _ => mm_b2 (fn_X2_verdictAt N M7 b8 x3) fun v10 M9 =>
  some (v10, M9)
set_option maxRecDepth 100000 in
set_option maxHeartbeats 4000000 in
theorem ct_X9_verdict {l : Launch} {ω : Wd} {k N : Nat} {M : Mem} {a0 : Nat} {x1 : Int32} {x2 : Int32} {x3 : Int32} {r : Int32} {M' : Mem} (h : fn_X9_verdict N M a0 x1 x2 x3 = some (r, M')) : CM l ω k yX9_verdict cX9_verdict 4 (some .int) 3 0 0 [.ref a0, .int x1, .int x2, .int x3] M (some (.int r)) M' := by
  refine CM.of (by decide) (Nat.le_of_ble_eq_true rfl) fun Γ hl C hr hi => ?_
  subst hl
  unfold fn_X9_verdict at h
  refine jv_aload_n C dX9_verdict_0 rfl 0 rfl ?_
  refine jv_getR C fa_X9_55 dX9_verdict_1 h (fun b1 h => ?_)
  refine jv_aload_n C dX9_verdict_4 rfl 0 rfl ?_
  refine jv_getR C fa_X9_23 dX9_verdict_5 h (fun b2 h => ?_)
  refine jv_iload_n C dX9_verdict_8 rfl 1 rfl ?_
  refine jv_aload_n C dX9_verdict_9 rfl 0 rfl ?_
  refine jv_getR C fa_X9_33 dX9_verdict_10 h (fun b3 h => ?_)
  refine jv_getI C fa_X9_159 dX9_verdict_13 h (fun v4 h => ?_)
  refine jv_iadd C dX9_verdict_16 ?_
  refine jv_iload_n C dX9_verdict_17 rfl 2 rfl ?_
  refine jv_aload_n C dX9_verdict_18 rfl 0 rfl ?_
  refine jv_getR C fa_X9_33 dX9_verdict_19 h (fun b5 h => ?_)
  refine jv_getI C fa_X9_162 dX9_verdict_22 h (fun v6 h => ?_)
  refine jv_iadd C dX9_verdict_25 ?_
  refine jv_vV0 (As := [.ref b2, .int (x1 + v4), .int (x2 + v6)]) C lk_X9_176 rfl dX9_verdict_26 rfl rfl (by decide) (by decide) (by decide) (Nat.le_of_ble_eq_true rfl) h (fun _ _ h => ct_X2_examine h) (fun _ M7 h => ?_)
  refine jv_aload_n C dX9_verdict_29 rfl 0 rfl ?_
  refine jv_getR C fa_X9_55 dX9_verdict_30 h (fun b8 h => ?_)
  refine jv_iload_n C dX9_verdict_33 rfl 3 rfl ?_
  refine jv_vI0 (As := [.int x3]) C lk_X9_180 rfl dX9_verdict_34 rfl rfl (by decide) (by decide) (by decide) (Nat.le_of_ble_eq_true rfl) h (fun _ _ h => ct_X2_verdictAt h) (fun v10 M9 h => ?_)
  exact jv_iret C hr dX9_verdict_37 h
theorem dX9_cost_0 : decode cX9_cost 0 = .ok (.iload_n 1, 1) := by decide +kernel
theorem dX9_cost_1 : decode cX9_cost 1 = .ok (.bipush 20, 2) := by decide +kernel
theorem dX9_cost_3 : decode cX9_cost 3 = .ok (.if_icmp .ge 7, 3) := by decide +kernel
theorem dX9_cost_6 : decode cX9_cost 6 = .ok (.iconst 1, 1) := by decide +kernel
theorem dX9_cost_7 : decode cX9_cost 7 = .ok (.goto 4, 3) := by decide +kernel
theorem dX9_cost_10 : decode cX9_cost 10 = .ok (.iconst 0, 1) := by decide +kernel
theorem dX9_cost_11 : decode cX9_cost 11 = .ok (.istore_n 2, 1) := by decide +kernel
theorem dX9_cost_12 : decode cX9_cost 12 = .ok (.iload_n 0, 1) := by decide +kernel
theorem dX9_cost_13 : decode cX9_cost 13 = .ok (.iconst (-1), 1) := by decide +kernel
theorem dX9_cost_14 : decode cX9_cost 14 = .ok (.if_icmp .ne 14, 3) := by decide +kernel
theorem dX9_cost_17 : decode cX9_cost 17 = .ok (.iload_n 2, 1) := by decide +kernel
theorem dX9_cost_18 : decode cX9_cost 18 = .ok (.ifCond .eq 8, 3) := by decide +kernel
theorem dX9_cost_21 : decode cX9_cost 21 = .ok (.bipush 10, 2) := by decide +kernel
theorem dX9_cost_23 : decode cX9_cost 23 = .ok (.goto 4, 3) := by decide +kernel
theorem dX9_cost_26 : decode cX9_cost 26 = .ok (.iconst 0, 1) := by decide +kernel
theorem dX9_cost_27 : decode cX9_cost 27 = .ok (.ireturn, 1) := by decide +kernel
theorem dX9_cost_28 : decode cX9_cost 28 = .ok (.iload_n 1, 1) := by decide +kernel
theorem dX9_cost_29 : decode cX9_cost 29 = .ok (.iload_n 0, 1) := by decide +kernel
theorem dX9_cost_30 : decode cX9_cost 30 = .ok (.if_icmp .ne 5, 3) := by decide +kernel
theorem dX9_cost_33 : decode cX9_cost 33 = .ok (.iconst 0, 1) := by decide +kernel
theorem dX9_cost_34 : decode cX9_cost 34 = .ok (.ireturn, 1) := by decide +kernel
theorem dX9_cost_35 : decode cX9_cost 35 = .ok (.iload_n 2, 1) := by decide +kernel
theorem dX9_cost_36 : decode cX9_cost 36 = .ok (.ifCond .eq 7, 3) := by decide +kernel
theorem dX9_cost_39 : decode cX9_cost 39 = .ok (.iconst 5, 1) := by decide +kernel
theorem dX9_cost_40 : decode cX9_cost 40 = .ok (.goto 4, 3) := by decide +kernel
theorem dX9_cost_43 : decode cX9_cost 43 = .ok (.iconst 1, 1) := by decide +kernel
theorem dX9_cost_44 : decode cX9_cost 44 = .ok (.ireturn, 1) := by decide +kernel
def fn_X9_cost_11 (N : Nat) (M : Mem) (x0 : Int32) (x1 : Int32) (s0 : Int32) : Option (Int32 × Mem) :=
  if x0 = (-1) then
    if s0 = 0 then
      some (0, M)
    else
      some (10, M)
  else
    if x1 = x0 then
      some (0, M)
    else
      if s0 = 0 then
        some (1, M)
      else
        some (5, M)
set_option maxRecDepth 100000 in
set_option maxHeartbeats 4000000 in
theorem bk_X9_cost_11 {Γ : Gm} {ω : Wd} {k N : Nat} {r : Int32} {M' : Mem} (C : Cx Γ cX9_cost 3 RX9 ω 0 0 0) (hr : Γ.meth.sig.returnType = (some .int)) (M : Mem) (x0 : Int32) (x1 : Int32) (s0 : Int32) (h : fn_X9_cost_11 N M x0 x1 s0 = some (r, M')) : JJ Γ (QF Γ ω k 0 0 (some (.int r)) M') 3 ω k M 0 0 11 [(0, .int x0), (1, .int x1)] [.int s0] := by
  unfold fn_X9_cost_11 at h
  refine jv_istore_n (lv' := [(2, .int s0), (0, .int x0), (1, .int x1)]) C dX9_cost_11 rfl (by decide) rfl ?_
  refine jv_iload_n C dX9_cost_12 rfl 1 rfl ?_
  refine jv_iconst (v := (-1)) C dX9_cost_13 (by decide) ?_
  refine jv_icmp_ne (tgt := 28) C dX9_cost_14 (by decide) h (fun h => ?_) (fun h => ?_)
  · refine jv_iload_n C dX9_cost_28 rfl 2 rfl ?_
    refine jv_iload_n C dX9_cost_29 rfl 1 rfl ?_
    refine jv_icmp_ne (tgt := 35) C dX9_cost_30 (by decide) h (fun h => ?_) (fun h => ?_)
    · refine jv_iload_n C dX9_cost_35 rfl 0 rfl ?_
      refine jv_if_eq (tgt := 43) C dX9_cost_36 (by decide) h (fun h => ?_) (fun h => ?_)
      · refine jv_iconst (v := 1) C dX9_cost_43 (by decide) ?_
        exact jv_iret C hr dX9_cost_44 h
      · refine jv_iconst (v := 5) C dX9_cost_39 (by decide) ?_
        refine jv_goto (tgt := 44) C dX9_cost_40 (by decide) ?_
        exact jv_iret C hr dX9_cost_44 h
    · refine jv_iconst (v := 0) C dX9_cost_33 (by decide) ?_
      exact jv_iret C hr dX9_cost_34 h
  · refine jv_iload_n C dX9_cost_17 rfl 0 rfl ?_
    refine jv_if_eq (tgt := 26) C dX9_cost_18 (by decide) h (fun h => ?_) (fun h => ?_)
    · refine jv_iconst (v := 0) C dX9_cost_26 (by decide) ?_
      exact jv_iret C hr dX9_cost_27 h
    · refine jv_bipush (v := 10) C dX9_cost_21 (by decide) ?_
      refine jv_goto (tgt := 27) C dX9_cost_23 (by decide) ?_
      exact jv_iret C hr dX9_cost_27 h
def fn_X9_cost (N : Nat) (M : Mem) (x0 : Int32) (x1 : Int32) : Option (Int32 × Mem) :=
  if 20 ≤ x1 then
    fn_X9_cost_11 N M x0 x1 0
  else
    fn_X9_cost_11 N M x0 x1 1
set_option maxRecDepth 100000 in
set_option maxHeartbeats 4000000 in
theorem ct_X9_cost {l : Launch} {ω : Wd} {k N : Nat} {M : Mem} {x0 : Int32} {x1 : Int32} {r : Int32} {M' : Mem} (h : fn_X9_cost N M x0 x1 = some (r, M')) : CM l ω k yX9_cost cX9_cost 3 (some .int) 0 0 0 [.int x0, .int x1] M (some (.int r)) M' := by
  refine CM.of (by decide) (Nat.le_of_ble_eq_true rfl) fun Γ hl C hr hi => ?_
  subst hl
  unfold fn_X9_cost at h
  refine jv_iload_n C dX9_cost_0 rfl 1 rfl ?_
  refine jv_bipush (v := 20) C dX9_cost_1 (by decide) ?_
  refine jv_icmp_ge (tgt := 10) C dX9_cost_3 (by decide) h (fun h => ?_) (fun h => ?_)
  · refine jv_iconst (v := 0) C dX9_cost_10 (by decide) ?_
    exact bk_X9_cost_11 C hr _ _ _ _ h
  · refine jv_iconst (v := 1) C dX9_cost_6 (by decide) ?_
    refine jv_goto (tgt := 11) C dX9_cost_7 (by decide) ?_
    exact bk_X9_cost_11 C hr _ _ _ _ h
theorem dX9_bestMargin_0 : decode cX9_bestMargin 0 = .ok (.aload_n 0, 1) := by decide +kernel
theorem dX9_bestMargin_1 : decode cX9_bestMargin 1 = .ok (.getfield 69, 3) := by decide +kernel
theorem dX9_bestMargin_4 : decode cX9_bestMargin 4 = .ok (.invokevirtual 267, 3) := by decide +kernel
theorem dX9_bestMargin_7 : decode cX9_bestMargin 7 = .ok (.iconst 0, 1) := by decide +kernel
theorem dX9_bestMargin_8 : decode cX9_bestMargin 8 = .ok (.istore_n 1, 1) := by decide +kernel
theorem dX9_bestMargin_9 : decode cX9_bestMargin 9 = .ok (.iload_n 1, 1) := by decide +kernel
theorem dX9_bestMargin_10 : decode cX9_bestMargin 10 = .ok (.aload_n 0, 1) := by decide +kernel
theorem dX9_bestMargin_11 : decode cX9_bestMargin 11 = .ok (.getfield 33, 3) := by decide +kernel
theorem dX9_bestMargin_14 : decode cX9_bestMargin 14 = .ok (.getfield 248, 3) := by decide +kernel
theorem dX9_bestMargin_17 : decode cX9_bestMargin 17 = .ok (.getfield 124, 3) := by decide +kernel
theorem dX9_bestMargin_20 : decode cX9_bestMargin 20 = .ok (.if_icmp .ge 75, 3) := by decide +kernel
theorem dX9_bestMargin_23 : decode cX9_bestMargin 23 = .ok (.aload_n 0, 1) := by decide +kernel
theorem dX9_bestMargin_24 : decode cX9_bestMargin 24 = .ok (.getfield 33, 3) := by decide +kernel
theorem dX9_bestMargin_27 : decode cX9_bestMargin 27 = .ok (.getfield 248, 3) := by decide +kernel
theorem dX9_bestMargin_30 : decode cX9_bestMargin 30 = .ok (.iload_n 1, 1) := by decide +kernel
theorem dX9_bestMargin_31 : decode cX9_bestMargin 31 = .ok (.invokevirtual 132, 3) := by decide +kernel
theorem dX9_bestMargin_34 : decode cX9_bestMargin 34 = .ok (.istore_n 2, 1) := by decide +kernel
theorem dX9_bestMargin_35 : decode cX9_bestMargin 35 = .ok (.aload_n 0, 1) := by decide +kernel
theorem dX9_bestMargin_36 : decode cX9_bestMargin 36 = .ok (.getfield 33, 3) := by decide +kernel
theorem dX9_bestMargin_39 : decode cX9_bestMargin 39 = .ok (.getfield 254, 3) := by decide +kernel
theorem dX9_bestMargin_42 : decode cX9_bestMargin 42 = .ok (.iload_n 1, 1) := by decide +kernel
theorem dX9_bestMargin_43 : decode cX9_bestMargin 43 = .ok (.invokevirtual 132, 3) := by decide +kernel
theorem dX9_bestMargin_46 : decode cX9_bestMargin 46 = .ok (.istore_n 3, 1) := by decide +kernel
theorem dX9_bestMargin_47 : decode cX9_bestMargin 47 = .ok (.aload_n 0, 1) := by decide +kernel
theorem dX9_bestMargin_48 : decode cX9_bestMargin 48 = .ok (.iload_n 2, 1) := by decide +kernel
theorem dX9_bestMargin_49 : decode cX9_bestMargin 49 = .ok (.invokestatic 257, 3) := by decide +kernel
theorem dX9_bestMargin_52 : decode cX9_bestMargin 52 = .ok (.iload_n 2, 1) := by decide +kernel
theorem dX9_bestMargin_53 : decode cX9_bestMargin 53 = .ok (.invokestatic 260, 3) := by decide +kernel
theorem dX9_bestMargin_56 : decode cX9_bestMargin 56 = .ok (.iconst 0, 1) := by decide +kernel
theorem dX9_bestMargin_57 : decode cX9_bestMargin 57 = .ok (.invokevirtual 173, 3) := by decide +kernel
theorem dX9_bestMargin_60 : decode cX9_bestMargin 60 = .ok (.istore 4, 2) := by decide +kernel
theorem dX9_bestMargin_62 : decode cX9_bestMargin 62 = .ok (.aload_n 0, 1) := by decide +kernel
theorem dX9_bestMargin_63 : decode cX9_bestMargin 63 = .ok (.getfield 69, 3) := by decide +kernel
theorem dX9_bestMargin_66 : decode cX9_bestMargin 66 = .ok (.aload_n 0, 1) := by decide +kernel
theorem dX9_bestMargin_67 : decode cX9_bestMargin 67 = .ok (.getfield 55, 3) := by decide +kernel
theorem dX9_bestMargin_70 : decode cX9_bestMargin 70 = .ok (.getfield 269, 3) := by decide +kernel
theorem dX9_bestMargin_73 : decode cX9_bestMargin 73 = .ok (.iload_n 3, 1) := by decide +kernel
theorem dX9_bestMargin_74 : decode cX9_bestMargin 74 = .ok (.bipush 21, 2) := by decide +kernel
theorem dX9_bestMargin_76 : decode cX9_bestMargin 76 = .ok (.invokestatic 263, 3) := by decide +kernel
theorem dX9_bestMargin_79 : decode cX9_bestMargin 79 = .ok (.iload_n 3, 1) := by decide +kernel
theorem dX9_bestMargin_80 : decode cX9_bestMargin 80 = .ok (.iload 4, 2) := by decide +kernel
theorem dX9_bestMargin_82 : decode cX9_bestMargin 82 = .ok (.invokestatic 263, 3) := by decide +kernel
theorem dX9_bestMargin_85 : decode cX9_bestMargin 85 = .ok (.isub, 1) := by decide +kernel
theorem dX9_bestMargin_86 : decode cX9_bestMargin 86 = .ok (.invokevirtual 272, 3) := by decide +kernel
theorem dX9_bestMargin_89 : decode cX9_bestMargin 89 = .ok (.iinc 1 1, 3) := by decide +kernel
theorem dX9_bestMargin_92 : decode cX9_bestMargin 92 = .ok (.goto (-83), 3) := by decide +kernel
theorem dX9_bestMargin_95 : decode cX9_bestMargin 95 = .ok (.aload_n 0, 1) := by decide +kernel
theorem dX9_bestMargin_96 : decode cX9_bestMargin 96 = .ok (.getfield 69, 3) := by decide +kernel
theorem dX9_bestMargin_99 : decode cX9_bestMargin 99 = .ok (.invokevirtual 276, 3) := by decide +kernel
theorem dX9_bestMargin_102 : decode cX9_bestMargin 102 = .ok (.ireturn, 1) := by decide +kernel
def fn_X9_bestMargin_9 (N : Nat) : Nat → Mem → Nat → Int32 → Option (Int32 × Mem)
  | 0, _, _, _ => none
  | n + 1, M, a0, x1 =>
    (mm_gR M a0 9 5).bind fun b1 =>
    (mm_gR M b1 7 13).bind fun b2 =>
    (mm_gI M b2 6 1).bind fun v3 =>
    if v3 ≤ x1 then
      (mm_gR M a0 9 11).bind fun b4 =>
      (mm_ck M b4 8).bind fun _ => mm_b2 (fn_X8_best N M b4) fun v6 M5 =>
      some (v6, M5)
    else
      (mm_gR M a0 9 5).bind fun b7 =>
      (mm_gR M b7 7 13).bind fun b8 =>
      (mm_ck M b8 6).bind fun _ => mm_b2 (fn_X6_at N M b8 x1) fun v10 M9 =>
      (mm_gR M9 a0 9 5).bind fun b11 =>
      (mm_gR M9 b11 7 14).bind fun b12 =>
      (mm_ck M9 b12 6).bind fun _ => mm_b2 (fn_X6_at N M9 b12 x1) fun v14 M13 =>
      mm_b2 (fn_X9_diameterOf N M13 v10) fun v16 M15 =>
      mm_b2 (fn_X9_alloyOf N M15 v10) fun v18 M17 =>
      (mm_ck M17 a0 9).bind fun _ => mm_b2 (fn_X9_verdict N M17 a0 v16 v18 0) fun v20 M19 =>
      (mm_gR M19 a0 9 11).bind fun b21 =>
      (mm_gR M19 a0 9 9).bind fun b22 =>
      (mm_gI M19 b22 2 1).bind fun v23 =>
      mm_b2 (fn_X9_cost N M19 v14 21) fun v25 M24 =>
      mm_b2 (fn_X9_cost N M24 v14 v20) fun v27 M26 =>
      (mm_ck M26 b21 8).bind fun _ => mm_b2 (fn_X8_add N M26 b21 v23 ((v25 - v27))) fun _ M28 =>
      fn_X9_bestMargin_9 N n M28 a0 ((x1 + 1))
set_option maxRecDepth 100000 in
set_option maxHeartbeats 4000000 in
theorem bk_X9_bestMargin_9 {Γ : Gm} {ω : Wd} {k N : Nat} {r : Int32} {M' : Mem} (C : Cx Γ cX9_bestMargin 5 RX9 ω 4 0 0) (hr : Γ.meth.sig.returnType = (some .int)) : ∀ (n : Nat) (M : Mem) (a0 : Nat) (x1 : Int32), fn_X9_bestMargin_9 N n M a0 x1 = some (r, M') → JJ Γ (QF Γ ω k 0 0 (some (.int r)) M') 5 ω k M 0 0 9 [(0, .ref a0), (1, .int x1)] [] := by
  intro n
  induction n with
  | zero => intro M a0 x1 h; exact jv_no h
  | succ n ih =>
    intro M a0 x1 h
    rw [fn_X9_bestMargin_9.eq_2] at h
    refine jv_iload_n C dX9_bestMargin_9 rfl 1 rfl ?_
    refine jv_aload_n C dX9_bestMargin_10 rfl 0 rfl ?_
    refine jv_getR C fa_X9_33 dX9_bestMargin_11 h (fun b1 h => ?_)
    refine jv_getR C fa_X9_248 dX9_bestMargin_14 h (fun b2 h => ?_)
    refine jv_getI C fa_X9_124 dX9_bestMargin_17 h (fun v3 h => ?_)
    refine jv_icmp_ge (tgt := 95) C dX9_bestMargin_20 (by decide) h (fun h => ?_) (fun h => ?_)
    · refine jv_aload_n C dX9_bestMargin_95 rfl 0 rfl ?_
      refine jv_getR C fa_X9_69 dX9_bestMargin_96 h (fun b4 h => ?_)
      refine jv_vI0 (As := []) C lk_X9_276 rfl dX9_bestMargin_99 rfl rfl (by decide) (by decide) (by decide) (Nat.le_of_ble_eq_true rfl) h (fun _ _ h => ct_X8_best h) (fun v6 M5 h => ?_)
      exact jv_iret C hr dX9_bestMargin_102 h
    · refine jv_aload_n C dX9_bestMargin_23 rfl 0 rfl ?_
      refine jv_getR C fa_X9_33 dX9_bestMargin_24 h (fun b7 h => ?_)
      refine jv_getR C fa_X9_248 dX9_bestMargin_27 h (fun b8 h => ?_)
      refine jv_iload_n C dX9_bestMargin_30 rfl 1 rfl ?_
      refine jv_vI0 (As := [.int x1]) C lk_X9_132 rfl dX9_bestMargin_31 rfl rfl (by decide) (by decide) (by decide) (Nat.le_of_ble_eq_true rfl) h (fun _ _ h => ct_X6_at h) (fun v10 M9 h => ?_)
      refine jv_istore_n (lv' := [(2, .int v10), (0, .ref a0), (1, .int x1)]) C dX9_bestMargin_34 rfl (by decide) rfl ?_
      refine jv_aload_n C dX9_bestMargin_35 rfl 1 rfl ?_
      refine jv_getR C fa_X9_33 dX9_bestMargin_36 h (fun b11 h => ?_)
      refine jv_getR C fa_X9_254 dX9_bestMargin_39 h (fun b12 h => ?_)
      refine jv_iload_n C dX9_bestMargin_42 rfl 2 rfl ?_
      refine jv_vI0 (As := [.int x1]) C lk_X9_132 rfl dX9_bestMargin_43 rfl rfl (by decide) (by decide) (by decide) (Nat.le_of_ble_eq_true rfl) h (fun _ _ h => ct_X6_at h) (fun v14 M13 h => ?_)
      refine jv_istore_n (lv' := [(3, .int v14), (2, .int v10), (0, .ref a0), (1, .int x1)]) C dX9_bestMargin_46 rfl (by decide) rfl ?_
      refine jv_aload_n C dX9_bestMargin_47 rfl 2 rfl ?_
      refine jv_iload_n C dX9_bestMargin_48 rfl 1 rfl ?_
      refine jv_sI0 (As := [.int v10]) C lk_X9_257 dX9_bestMargin_49 rfl rfl (by decide) (by decide) (by decide) (Nat.le_of_ble_eq_true rfl) h (fun _ _ h => ct_X9_diameterOf h) (fun v16 M15 h => ?_)
      refine jv_iload_n C dX9_bestMargin_52 rfl 1 rfl ?_
      refine jv_sI0 (As := [.int v10]) C lk_X9_260 dX9_bestMargin_53 rfl rfl (by decide) (by decide) (by decide) (Nat.le_of_ble_eq_true rfl) h (fun _ _ h => ct_X9_alloyOf h) (fun v18 M17 h => ?_)
      refine jv_iconst (v := 0) C dX9_bestMargin_56 (by decide) ?_
      refine jv_vI0 (As := [.int v16, .int v18, .int 0]) C lk_X9_173 rfl dX9_bestMargin_57 rfl rfl (by decide) (by decide) (by decide) (Nat.le_of_ble_eq_true rfl) h (fun _ _ h => ct_X9_verdict h) (fun v20 M19 h => ?_)
      refine jv_istore (lv' := [(4, .int v20), (3, .int v14), (2, .int v10), (0, .ref a0), (1, .int x1)]) C dX9_bestMargin_60 (by decide) rfl ?_
      refine jv_aload_n C dX9_bestMargin_62 rfl 3 rfl ?_
      refine jv_getR C fa_X9_69 dX9_bestMargin_63 h (fun b21 h => ?_)
      refine jv_aload_n C dX9_bestMargin_66 rfl 3 rfl ?_
      refine jv_getR C fa_X9_55 dX9_bestMargin_67 h (fun b22 h => ?_)
      refine jv_getI C fa_X9_269 dX9_bestMargin_70 h (fun v23 h => ?_)
      refine jv_iload_n C dX9_bestMargin_73 rfl 1 rfl ?_
      refine jv_bipush (v := 21) C dX9_bestMargin_74 (by decide) ?_
      refine jv_sI0 (As := [.int v14, .int 21]) C lk_X9_263 dX9_bestMargin_76 rfl rfl (by decide) (by decide) (by decide) (Nat.le_of_ble_eq_true rfl) h (fun _ _ h => ct_X9_cost h) (fun v25 M24 h => ?_)
      refine jv_iload_n C dX9_bestMargin_79 rfl 1 rfl ?_
      refine jv_iload C dX9_bestMargin_80 0 rfl ?_
      refine jv_sI0 (As := [.int v14, .int v20]) C lk_X9_263 dX9_bestMargin_82 rfl rfl (by decide) (by decide) (by decide) (Nat.le_of_ble_eq_true rfl) h (fun _ _ h => ct_X9_cost h) (fun v27 M26 h => ?_)
      refine jv_isub C dX9_bestMargin_85 ?_
      refine jv_vV0 (As := [.int v23, .int (v25 - v27)]) C lk_X9_272 rfl dX9_bestMargin_86 rfl rfl (by decide) (by decide) (by decide) (Nat.le_of_ble_eq_true rfl) h (fun _ _ h => ct_X8_add h) (fun _ M28 h => ?_)
      refine jv_iinc (v := 1) (lv' := [(1, .int (x1 + 1)), (4, .int v20), (3, .int v14), (2, .int v10), (0, .ref a0)]) C dX9_bestMargin_89 4 rfl (by decide) (by decide) rfl ?_
      refine jv_goto (tgt := 9) C dX9_bestMargin_92 (by decide) ?_
      refine jv_sub [4, 0] rfl ?_
      exact ih _ _ _ h
def fn_X9_bestMargin (N : Nat) (M : Mem) (a0 : Nat) : Option (Int32 × Mem) :=
  (mm_gR M a0 9 11).bind fun b1 =>
  (mm_ck M b1 8).bind fun _ => mm_b2 (fn_X8_begin N M b1) fun _ M2 =>
  fn_X9_bestMargin_9 N N M2 a0 0
set_option maxRecDepth 100000 in
set_option maxHeartbeats 4000000 in
theorem ct_X9_bestMargin {l : Launch} {ω : Wd} {k N : Nat} {M : Mem} {a0 : Nat} {r : Int32} {M' : Mem} (h : fn_X9_bestMargin N M a0 = some (r, M')) : CM l ω k yX9_bestMargin cX9_bestMargin 5 (some .int) 4 0 0 [.ref a0] M (some (.int r)) M' := by
  refine CM.of (by decide) (Nat.le_of_ble_eq_true rfl) fun Γ hl C hr hi => ?_
  subst hl
  unfold fn_X9_bestMargin at h
  refine jv_aload_n C dX9_bestMargin_0 rfl 0 rfl ?_
  refine jv_getR C fa_X9_69 dX9_bestMargin_1 h (fun b1 h => ?_)
  refine jv_vV0 (As := []) C lk_X9_267 rfl dX9_bestMargin_4 rfl rfl (by decide) (by decide) (by decide) (Nat.le_of_ble_eq_true rfl) h (fun _ _ h => ct_X8_begin h) (fun _ M2 h => ?_)
  refine jv_iconst (v := 0) C dX9_bestMargin_7 (by decide) ?_
  refine jv_istore_n (lv' := [(1, .int 0), (0, .ref a0)]) C dX9_bestMargin_8 rfl (by decide) rfl ?_
  refine jv_sub [1, 0] rfl ?_
  exact bk_X9_bestMargin_9 C hr _ _ _ _ h
theorem dX9_binCoins_0 : decode cX9_binCoins 0 = .ok (.aload_n 0, 1) := by decide +kernel
theorem dX9_binCoins_1 : decode cX9_binCoins 1 = .ok (.getfield 33, 3) := by decide +kernel
theorem dX9_binCoins_4 : decode cX9_binCoins 4 = .ok (.getfield 199, 3) := by decide +kernel
theorem dX9_binCoins_7 : decode cX9_binCoins 7 = .ok (.iload_n 1, 1) := by decide +kernel
theorem dX9_binCoins_8 : decode cX9_binCoins 8 = .ok (.invokevirtual 132, 3) := by decide +kernel
theorem dX9_binCoins_11 : decode cX9_binCoins 11 = .ok (.ireturn, 1) := by decide +kernel
def fn_X9_binCoins (N : Nat) (M : Mem) (a0 : Nat) (x1 : Int32) : Option (Int32 × Mem) :=
  (mm_gR M a0 9 5).bind fun b1 =>
  (mm_gR M b1 7 7).bind fun b2 =>
  (mm_ck M b2 6).bind fun _ => mm_b2 (fn_X6_at N M b2 x1) fun v4 M3 =>
  some (v4, M3)
set_option maxRecDepth 100000 in
set_option maxHeartbeats 4000000 in
theorem ct_X9_binCoins {l : Launch} {ω : Wd} {k N : Nat} {M : Mem} {a0 : Nat} {x1 : Int32} {r : Int32} {M' : Mem} (h : fn_X9_binCoins N M a0 x1 = some (r, M')) : CM l ω k yX9_binCoins cX9_binCoins 2 (some .int) 1 0 0 [.ref a0, .int x1] M (some (.int r)) M' := by
  refine CM.of (by decide) (Nat.le_of_ble_eq_true rfl) fun Γ hl C hr hi => ?_
  subst hl
  unfold fn_X9_binCoins at h
  refine jv_aload_n C dX9_binCoins_0 rfl 0 rfl ?_
  refine jv_getR C fa_X9_33 dX9_binCoins_1 h (fun b1 h => ?_)
  refine jv_getR C fa_X9_199 dX9_binCoins_4 h (fun b2 h => ?_)
  refine jv_iload_n C dX9_binCoins_7 rfl 1 rfl ?_
  refine jv_vI0 (As := [.int x1]) C lk_X9_132 rfl dX9_binCoins_8 rfl rfl (by decide) (by decide) (by decide) (Nat.le_of_ble_eq_true rfl) h (fun _ _ h => ct_X6_at h) (fun v4 M3 h => ?_)
  exact jv_iret C hr dX9_binCoins_11 h
theorem dX9_binCount_0 : decode cX9_binCount 0 = .ok (.aload_n 0, 1) := by decide +kernel
theorem dX9_binCount_1 : decode cX9_binCount 1 = .ok (.getfield 23, 3) := by decide +kernel
theorem dX9_binCount_4 : decode cX9_binCount 4 = .ok (.getfield 120, 3) := by decide +kernel
theorem dX9_binCount_7 : decode cX9_binCount 7 = .ok (.getfield 124, 3) := by decide +kernel
theorem dX9_binCount_10 : decode cX9_binCount 10 = .ok (.ireturn, 1) := by decide +kernel
def fn_X9_binCount (N : Nat) (M : Mem) (a0 : Nat) : Option (Int32 × Mem) :=
  (mm_gR M a0 9 3).bind fun b1 =>
  (mm_gR M b1 0 2).bind fun b2 =>
  (mm_gI M b2 6 1).bind fun v3 =>
  some (v3, M)
set_option maxRecDepth 100000 in
set_option maxHeartbeats 4000000 in
theorem ct_X9_binCount {l : Launch} {ω : Wd} {k N : Nat} {M : Mem} {a0 : Nat} {r : Int32} {M' : Mem} (h : fn_X9_binCount N M a0 = some (r, M')) : CM l ω k yX9_binCount cX9_binCount 1 (some .int) 0 0 0 [.ref a0] M (some (.int r)) M' := by
  refine CM.of (by decide) (Nat.le_of_ble_eq_true rfl) fun Γ hl C hr hi => ?_
  subst hl
  unfold fn_X9_binCount at h
  refine jv_aload_n C dX9_binCount_0 rfl 0 rfl ?_
  refine jv_getR C fa_X9_23 dX9_binCount_1 h (fun b1 h => ?_)
  refine jv_getR C fa_X9_120 dX9_binCount_4 h (fun b2 h => ?_)
  refine jv_getI C fa_X9_124 dX9_binCount_7 h (fun v3 h => ?_)
  exact jv_iret C hr dX9_binCount_10 h
theorem dX9_binFor_0 : decode cX9_binFor 0 = .ok (.aload_n 0, 1) := by decide +kernel
theorem dX9_binFor_1 : decode cX9_binFor 1 = .ok (.iload_n 1, 1) := by decide +kernel
theorem dX9_binFor_2 : decode cX9_binFor 2 = .ok (.invokevirtual 139, 3) := by decide +kernel
theorem dX9_binFor_5 : decode cX9_binFor 5 = .ok (.ifCond .ne 5, 3) := by decide +kernel
theorem dX9_binFor_8 : decode cX9_binFor 8 = .ok (.iconst (-1), 1) := by decide +kernel
theorem dX9_binFor_9 : decode cX9_binFor 9 = .ok (.ireturn, 1) := by decide +kernel
theorem dX9_binFor_10 : decode cX9_binFor 10 = .ok (.bipush (-2), 2) := by decide +kernel
theorem dX9_binFor_12 : decode cX9_binFor 12 = .ok (.istore_n 2, 1) := by decide +kernel
theorem dX9_binFor_13 : decode cX9_binFor 13 = .ok (.iconst 0, 1) := by decide +kernel
theorem dX9_binFor_14 : decode cX9_binFor 14 = .ok (.istore_n 3, 1) := by decide +kernel
theorem dX9_binFor_15 : decode cX9_binFor 15 = .ok (.iconst 0, 1) := by decide +kernel
theorem dX9_binFor_16 : decode cX9_binFor 16 = .ok (.istore 4, 2) := by decide +kernel
theorem dX9_binFor_18 : decode cX9_binFor 18 = .ok (.iload 4, 2) := by decide +kernel
theorem dX9_binFor_20 : decode cX9_binFor 20 = .ok (.aload_n 0, 1) := by decide +kernel
theorem dX9_binFor_21 : decode cX9_binFor 21 = .ok (.getfield 23, 3) := by decide +kernel
theorem dX9_binFor_24 : decode cX9_binFor 24 = .ok (.getfield 120, 3) := by decide +kernel
theorem dX9_binFor_27 : decode cX9_binFor 27 = .ok (.getfield 124, 3) := by decide +kernel
theorem dX9_binFor_30 : decode cX9_binFor 30 = .ok (.if_icmp .ge 75, 3) := by decide +kernel
theorem dX9_binFor_33 : decode cX9_binFor 33 = .ok (.aload_n 0, 1) := by decide +kernel
theorem dX9_binFor_34 : decode cX9_binFor 34 = .ok (.getfield 23, 3) := by decide +kernel
theorem dX9_binFor_37 : decode cX9_binFor 37 = .ok (.getfield 136, 3) := by decide +kernel
theorem dX9_binFor_40 : decode cX9_binFor 40 = .ok (.iload 4, 2) := by decide +kernel
theorem dX9_binFor_42 : decode cX9_binFor 42 = .ok (.invokevirtual 132, 3) := by decide +kernel
theorem dX9_binFor_45 : decode cX9_binFor 45 = .ok (.aload_n 0, 1) := by decide +kernel
theorem dX9_binFor_46 : decode cX9_binFor 46 = .ok (.getfield 33, 3) := by decide +kernel
theorem dX9_binFor_49 : decode cX9_binFor 49 = .ok (.getfield 199, 3) := by decide +kernel
theorem dX9_binFor_52 : decode cX9_binFor 52 = .ok (.iload 4, 2) := by decide +kernel
theorem dX9_binFor_54 : decode cX9_binFor 54 = .ok (.invokevirtual 132, 3) := by decide +kernel
theorem dX9_binFor_57 : decode cX9_binFor 57 = .ok (.isub, 1) := by decide +kernel
theorem dX9_binFor_58 : decode cX9_binFor 58 = .ok (.istore 5, 2) := by decide +kernel
theorem dX9_binFor_60 : decode cX9_binFor 60 = .ok (.aload_n 0, 1) := by decide +kernel
theorem dX9_binFor_61 : decode cX9_binFor 61 = .ok (.getfield 23, 3) := by decide +kernel
theorem dX9_binFor_64 : decode cX9_binFor 64 = .ok (.getfield 120, 3) := by decide +kernel
theorem dX9_binFor_67 : decode cX9_binFor 67 = .ok (.iload 4, 2) := by decide +kernel
theorem dX9_binFor_69 : decode cX9_binFor 69 = .ok (.invokevirtual 132, 3) := by decide +kernel
theorem dX9_binFor_72 : decode cX9_binFor 72 = .ok (.iload_n 1, 1) := by decide +kernel
theorem dX9_binFor_73 : decode cX9_binFor 73 = .ok (.if_icmp .ne 26, 3) := by decide +kernel
theorem dX9_binFor_76 : decode cX9_binFor 76 = .ok (.iload 5, 2) := by decide +kernel
theorem dX9_binFor_78 : decode cX9_binFor 78 = .ok (.ifCond .le 21, 3) := by decide +kernel
theorem dX9_binFor_81 : decode cX9_binFor 81 = .ok (.iload_n 2, 1) := by decide +kernel
theorem dX9_binFor_82 : decode cX9_binFor 82 = .ok (.bipush (-2), 2) := by decide +kernel
theorem dX9_binFor_84 : decode cX9_binFor 84 = .ok (.if_icmp .eq 9, 3) := by decide +kernel
theorem dX9_binFor_87 : decode cX9_binFor 87 = .ok (.iload 5, 2) := by decide +kernel
theorem dX9_binFor_89 : decode cX9_binFor 89 = .ok (.iload_n 3, 1) := by decide +kernel
theorem dX9_binFor_90 : decode cX9_binFor 90 = .ok (.if_icmp .ge 9, 3) := by decide +kernel
theorem dX9_binFor_93 : decode cX9_binFor 93 = .ok (.iload 4, 2) := by decide +kernel
theorem dX9_binFor_95 : decode cX9_binFor 95 = .ok (.istore_n 2, 1) := by decide +kernel
theorem dX9_binFor_96 : decode cX9_binFor 96 = .ok (.iload 5, 2) := by decide +kernel
theorem dX9_binFor_98 : decode cX9_binFor 98 = .ok (.istore_n 3, 1) := by decide +kernel
theorem dX9_binFor_99 : decode cX9_binFor 99 = .ok (.iinc 4 1, 3) := by decide +kernel
theorem dX9_binFor_102 : decode cX9_binFor 102 = .ok (.goto (-84), 3) := by decide +kernel
theorem dX9_binFor_105 : decode cX9_binFor 105 = .ok (.iload_n 2, 1) := by decide +kernel
theorem dX9_binFor_106 : decode cX9_binFor 106 = .ok (.ireturn, 1) := by decide +kernel
def fn_X9_binFor_99 (N : Nat) (K18 : Mem → Nat → Int32 → Int32 → Int32 → Int32 → Option (Int32 × Mem)) (M : Mem) (a0 : Nat) (x1 : Int32) (x2 : Int32) (x3 : Int32) (x4 : Int32) : Option (Int32 × Mem) :=
  K18 M a0 x1 x2 x3 ((x4 + 1))
set_option maxRecDepth 100000 in
set_option maxHeartbeats 4000000 in
theorem bk_X9_binFor_99 {Γ : Gm} {ω : Wd} {k N : Nat} {r : Int32} {M' : Mem} (C : Cx Γ cX9_binFor 6 RX9 ω 2 0 0) (hr : Γ.meth.sig.returnType = (some .int)) {K18 : Mem → Nat → Int32 → Int32 → Int32 → Int32 → Option (Int32 × Mem)} (hK18 : ∀ (M : Mem) (a0 : Nat) (x1 : Int32) (x2 : Int32) (x3 : Int32) (x4 : Int32), K18 M a0 x1 x2 x3 x4 = some (r, M') → JJ Γ (QF Γ ω k 0 0 (some (.int r)) M') 6 ω k M 0 0 18 [(0, .ref a0), (1, .int x1), (2, .int x2), (3, .int x3), (4, .int x4)] []) (M : Mem) (a0 : Nat) (x1 : Int32) (x2 : Int32) (x3 : Int32) (x4 : Int32) (h : fn_X9_binFor_99 N K18 M a0 x1 x2 x3 x4 = some (r, M')) : JJ Γ (QF Γ ω k 0 0 (some (.int r)) M') 6 ω k M 0 0 99 [(0, .ref a0), (1, .int x1), (2, .int x2), (3, .int x3), (4, .int x4)] [] := by
  unfold fn_X9_binFor_99 at h
  refine jv_iinc (v := 1) (lv' := [(4, .int (x4 + 1)), (0, .ref a0), (1, .int x1), (2, .int x2), (3, .int x3)]) C dX9_binFor_99 4 rfl (by decide) (by decide) rfl ?_
  refine jv_goto (tgt := 18) C dX9_binFor_102 (by decide) ?_
  refine jv_sub [1, 2, 3, 4, 0] rfl ?_
  exact hK18 _ _ _ _ _ _ h
def fn_X9_binFor_93 (N : Nat) (K18 : Mem → Nat → Int32 → Int32 → Int32 → Int32 → Option (Int32 × Mem)) (M : Mem) (a0 : Nat) (x1 : Int32) (x4 : Int32) (x5 : Int32) : Option (Int32 × Mem) :=
  fn_X9_binFor_99 N K18 M a0 x1 x4 x5 x4
set_option maxRecDepth 100000 in
set_option maxHeartbeats 4000000 in
theorem bk_X9_binFor_93 {Γ : Gm} {ω : Wd} {k N : Nat} {r : Int32} {M' : Mem} (C : Cx Γ cX9_binFor 6 RX9 ω 2 0 0) (hr : Γ.meth.sig.returnType = (some .int)) {K18 : Mem → Nat → Int32 → Int32 → Int32 → Int32 → Option (Int32 × Mem)} (hK18 : ∀ (M : Mem) (a0 : Nat) (x1 : Int32) (x2 : Int32) (x3 : Int32) (x4 : Int32), K18 M a0 x1 x2 x3 x4 = some (r, M') → JJ Γ (QF Γ ω k 0 0 (some (.int r)) M') 6 ω k M 0 0 18 [(0, .ref a0), (1, .int x1), (2, .int x2), (3, .int x3), (4, .int x4)] []) (M : Mem) (a0 : Nat) (x1 : Int32) (x4 : Int32) (x5 : Int32) (h : fn_X9_binFor_93 N K18 M a0 x1 x4 x5 = some (r, M')) : JJ Γ (QF Γ ω k 0 0 (some (.int r)) M') 6 ω k M 0 0 93 [(0, .ref a0), (1, .int x1), (4, .int x4), (5, .int x5)] [] := by
  unfold fn_X9_binFor_93 at h
  refine jv_iload C dX9_binFor_93 2 rfl ?_
  refine jv_istore_n (lv' := [(2, .int x4), (0, .ref a0), (1, .int x1), (4, .int x4), (5, .int x5)]) C dX9_binFor_95 rfl (by decide) rfl ?_
  refine jv_iload C dX9_binFor_96 4 rfl ?_
  refine jv_istore_n (lv' := [(3, .int x5), (2, .int x4), (0, .ref a0), (1, .int x1), (4, .int x4), (5, .int x5)]) C dX9_binFor_98 rfl (by decide) rfl ?_
  refine jv_sub [2, 3, 1, 0, 4] rfl ?_
  exact bk_X9_binFor_99 C hr hK18 _ _ _ _ _ _ h
def fn_X9_binFor_18 (N : Nat) : Nat → Mem → Nat → Int32 → Int32 → Int32 → Int32 → Option (Int32 × Mem)
  | 0, _, _, _, _, _, _ => none
  | n + 1, M, a0, x1, x2, x3, x4 =>
    (mm_gR M a0 9 3).bind fun b1 =>
    (mm_gR M b1 0 2).bind fun b2 =>
    (mm_gI M b2 6 1).bind fun v3 =>
    if v3 ≤ x4 then
      some (x2, M)
    else
      (mm_gR M a0 9 3).bind fun b4 =>
      (mm_gR M b4 0 3).bind fun b5 =>
      (mm_ck M b5 6).bind fun _ => mm_b2 (fn_X6_at N M b5 x4) fun v7 M6 =>
      (mm_gR M6 a0 9 5).bind fun b8 =>
      (mm_gR M6 b8 7 7).bind fun b9 =>
      (mm_ck M6 b9 6).bind fun _ => mm_b2 (fn_X6_at N M6 b9 x4) fun v11 M10 =>
      (mm_gR M10 a0 9 3).bind fun b12 =>
      (mm_gR M10 b12 0 2).bind fun b13 =>
      (mm_ck M10 b13 6).bind fun _ => mm_b2 (fn_X6_at N M10 b13 x4) fun v15 M14 =>
      if v15 = x1 then
        if (v7 - v11) ≤ 0 then
          fn_X9_binFor_99 N (fn_X9_binFor_18 N n) M14 a0 x1 x2 x3 x4
        else
          if x2 = (-2) then
            fn_X9_binFor_93 N (fn_X9_binFor_18 N n) M14 a0 x1 x4 ((v7 - v11))
          else
            if x3 ≤ (v7 - v11) then
              fn_X9_binFor_99 N (fn_X9_binFor_18 N n) M14 a0 x1 x2 x3 x4
            else
              fn_X9_binFor_93 N (fn_X9_binFor_18 N n) M14 a0 x1 x4 ((v7 - v11))
      else
        fn_X9_binFor_99 N (fn_X9_binFor_18 N n) M14 a0 x1 x2 x3 x4
set_option maxRecDepth 100000 in
set_option maxHeartbeats 4000000 in
theorem bk_X9_binFor_18 {Γ : Gm} {ω : Wd} {k N : Nat} {r : Int32} {M' : Mem} (C : Cx Γ cX9_binFor 6 RX9 ω 2 0 0) (hr : Γ.meth.sig.returnType = (some .int)) : ∀ (n : Nat) (M : Mem) (a0 : Nat) (x1 : Int32) (x2 : Int32) (x3 : Int32) (x4 : Int32), fn_X9_binFor_18 N n M a0 x1 x2 x3 x4 = some (r, M') → JJ Γ (QF Γ ω k 0 0 (some (.int r)) M') 6 ω k M 0 0 18 [(0, .ref a0), (1, .int x1), (2, .int x2), (3, .int x3), (4, .int x4)] [] := by
  intro n
  induction n with
  | zero => intro M a0 x1 x2 x3 x4 h; exact jv_no h
  | succ n ih =>
    intro M a0 x1 x2 x3 x4 h
    rw [fn_X9_binFor_18.eq_2] at h
    refine jv_iload C dX9_binFor_18 4 rfl ?_
    refine jv_aload_n C dX9_binFor_20 rfl 0 rfl ?_
    refine jv_getR C fa_X9_23 dX9_binFor_21 h (fun b1 h => ?_)
    refine jv_getR C fa_X9_120 dX9_binFor_24 h (fun b2 h => ?_)
    refine jv_getI C fa_X9_124 dX9_binFor_27 h (fun v3 h => ?_)
    refine jv_icmp_ge (tgt := 105) C dX9_binFor_30 (by decide) h (fun h => ?_) (fun h => ?_)
    · refine jv_iload_n C dX9_binFor_105 rfl 2 rfl ?_
      exact jv_iret C hr dX9_binFor_106 h
    · refine jv_aload_n C dX9_binFor_33 rfl 0 rfl ?_
      refine jv_getR C fa_X9_23 dX9_binFor_34 h (fun b4 h => ?_)
      refine jv_getR C fa_X9_136 dX9_binFor_37 h (fun b5 h => ?_)
      refine jv_iload C dX9_binFor_40 4 rfl ?_
      refine jv_vI0 (As := [.int x4]) C lk_X9_132 rfl dX9_binFor_42 rfl rfl (by decide) (by decide) (by decide) (Nat.le_of_ble_eq_true rfl) h (fun _ _ h => ct_X6_at h) (fun v7 M6 h => ?_)
      refine jv_aload_n C dX9_binFor_45 rfl 0 rfl ?_
      refine jv_getR C fa_X9_33 dX9_binFor_46 h (fun b8 h => ?_)
      refine jv_getR C fa_X9_199 dX9_binFor_49 h (fun b9 h => ?_)
      refine jv_iload C dX9_binFor_52 4 rfl ?_
      refine jv_vI0 (As := [.int x4]) C lk_X9_132 rfl dX9_binFor_54 rfl rfl (by decide) (by decide) (by decide) (Nat.le_of_ble_eq_true rfl) h (fun _ _ h => ct_X6_at h) (fun v11 M10 h => ?_)
      refine jv_isub C dX9_binFor_57 ?_
      refine jv_istore (lv' := [(5, .int (v7 - v11)), (0, .ref a0), (1, .int x1), (2, .int x2), (3, .int x3), (4, .int x4)]) C dX9_binFor_58 (by decide) rfl ?_
      refine jv_aload_n C dX9_binFor_60 rfl 1 rfl ?_
      refine jv_getR C fa_X9_23 dX9_binFor_61 h (fun b12 h => ?_)
      refine jv_getR C fa_X9_120 dX9_binFor_64 h (fun b13 h => ?_)
      refine jv_iload C dX9_binFor_67 5 rfl ?_
      refine jv_vI0 (As := [.int x4]) C lk_X9_132 rfl dX9_binFor_69 rfl rfl (by decide) (by decide) (by decide) (Nat.le_of_ble_eq_true rfl) h (fun _ _ h => ct_X6_at h) (fun v15 M14 h => ?_)
      refine jv_iload_n C dX9_binFor_72 rfl 2 rfl ?_
      refine jv_icmp_ne (tgt := 99) C dX9_binFor_73 (by decide) h (fun h => ?_) (fun h => ?_)
      · refine jv_sub [1, 2, 3, 4, 5] rfl ?_
        exact bk_X9_binFor_99 C hr ih _ _ _ _ _ _ h
      · refine jv_iload C dX9_binFor_76 0 rfl ?_
        refine jv_if_le (tgt := 99) C dX9_binFor_78 (by decide) h (fun h => ?_) (fun h => ?_)
        · refine jv_sub [1, 2, 3, 4, 5] rfl ?_
          exact bk_X9_binFor_99 C hr ih _ _ _ _ _ _ h
        · refine jv_iload_n C dX9_binFor_81 rfl 3 rfl ?_
          refine jv_bipush (v := (-2)) C dX9_binFor_82 (by decide) ?_
          refine jv_icmp_eq (tgt := 93) C dX9_binFor_84 (by decide) h (fun h => ?_) (fun h => ?_)
          · refine jv_sub [1, 2, 5, 0] rfl ?_
            exact bk_X9_binFor_93 C hr ih _ _ _ _ _ h
          · refine jv_iload C dX9_binFor_87 0 rfl ?_
            refine jv_iload_n C dX9_binFor_89 rfl 4 rfl ?_
            refine jv_icmp_ge (tgt := 99) C dX9_binFor_90 (by decide) h (fun h => ?_) (fun h => ?_)
            · refine jv_sub [1, 2, 3, 4, 5] rfl ?_
              exact bk_X9_binFor_99 C hr ih _ _ _ _ _ _ h
            · refine jv_sub [1, 2, 5, 0] rfl ?_
              exact bk_X9_binFor_93 C hr ih _ _ _ _ _ h
def fn_X9_binFor (N : Nat) (M : Mem) (a0 : Nat) (x1 : Int32) : Option (Int32 × Mem) :=
  (mm_ck M a0 9).bind fun _ => mm_b2 (fn_X9_isType N M a0 x1) fun v2 M1 =>
  if v2 = 0 then
    some ((-1), M1)
  else
    fn_X9_binFor_18 N N M1 a0 x1 ((-2)) 0 0
set_option maxRecDepth 100000 in
set_option maxHeartbeats 4000000 in
theorem ct_X9_binFor {l : Launch} {ω : Wd} {k N : Nat} {M : Mem} {a0 : Nat} {x1 : Int32} {r : Int32} {M' : Mem} (h : fn_X9_binFor N M a0 x1 = some (r, M')) : CM l ω k yX9_binFor cX9_binFor 6 (some .int) 2 0 0 [.ref a0, .int x1] M (some (.int r)) M' := by
  refine CM.of (by decide) (Nat.le_of_ble_eq_true rfl) fun Γ hl C hr hi => ?_
  subst hl
  unfold fn_X9_binFor at h
  refine jv_aload_n C dX9_binFor_0 rfl 0 rfl ?_
  refine jv_iload_n C dX9_binFor_1 rfl 1 rfl ?_
  refine jv_vI0 (As := [.int x1]) C lk_X9_139 rfl dX9_binFor_2 rfl rfl (by decide) (by decide) (by decide) (Nat.le_of_ble_eq_true rfl) h (fun _ _ h => ct_X9_isType h) (fun v2 M1 h => ?_)
  refine jv_if_ne (tgt := 10) C dX9_binFor_5 (by decide) h (fun h => ?_) (fun h => ?_)
  · refine jv_bipush (v := (-2)) C dX9_binFor_10 (by decide) ?_
    refine jv_istore_n (lv' := [(2, .int (-2)), (0, .ref a0), (1, .int x1)]) C dX9_binFor_12 rfl (by decide) rfl ?_
    refine jv_iconst (v := 0) C dX9_binFor_13 (by decide) ?_
    refine jv_istore_n (lv' := [(3, .int 0), (2, .int (-2)), (0, .ref a0), (1, .int x1)]) C dX9_binFor_14 rfl (by decide) rfl ?_
    refine jv_iconst (v := 0) C dX9_binFor_15 (by decide) ?_
    refine jv_istore (lv' := [(4, .int 0), (3, .int 0), (2, .int (-2)), (0, .ref a0), (1, .int x1)]) C dX9_binFor_16 (by decide) rfl ?_
    refine jv_sub [3, 4, 2, 1, 0] rfl ?_
    exact bk_X9_binFor_18 C hr _ _ _ _ _ _ _ h
  · refine jv_iconst (v := (-1)) C dX9_binFor_8 (by decide) ?_
    exact jv_iret C hr dX9_binFor_9 h
theorem dX9_binType_0 : decode cX9_binType 0 = .ok (.aload_n 0, 1) := by decide +kernel
theorem dX9_binType_1 : decode cX9_binType 1 = .ok (.getfield 23, 3) := by decide +kernel
theorem dX9_binType_4 : decode cX9_binType 4 = .ok (.getfield 120, 3) := by decide +kernel
theorem dX9_binType_7 : decode cX9_binType 7 = .ok (.iload_n 1, 1) := by decide +kernel
theorem dX9_binType_8 : decode cX9_binType 8 = .ok (.invokevirtual 132, 3) := by decide +kernel
theorem dX9_binType_11 : decode cX9_binType 11 = .ok (.ireturn, 1) := by decide +kernel
def fn_X9_binType (N : Nat) (M : Mem) (a0 : Nat) (x1 : Int32) : Option (Int32 × Mem) :=
  (mm_gR M a0 9 3).bind fun b1 =>
  (mm_gR M b1 0 2).bind fun b2 =>
  (mm_ck M b2 6).bind fun _ => mm_b2 (fn_X6_at N M b2 x1) fun v4 M3 =>
  some (v4, M3)
set_option maxRecDepth 100000 in
set_option maxHeartbeats 4000000 in
theorem ct_X9_binType {l : Launch} {ω : Wd} {k N : Nat} {M : Mem} {a0 : Nat} {x1 : Int32} {r : Int32} {M' : Mem} (h : fn_X9_binType N M a0 x1 = some (r, M')) : CM l ω k yX9_binType cX9_binType 2 (some .int) 1 0 0 [.ref a0, .int x1] M (some (.int r)) M' := by
  refine CM.of (by decide) (Nat.le_of_ble_eq_true rfl) fun Γ hl C hr hi => ?_
  subst hl
  unfold fn_X9_binType at h
  refine jv_aload_n C dX9_binType_0 rfl 0 rfl ?_
  refine jv_getR C fa_X9_23 dX9_binType_1 h (fun b1 h => ?_)
  refine jv_getR C fa_X9_120 dX9_binType_4 h (fun b2 h => ?_)
  refine jv_iload_n C dX9_binType_7 rfl 1 rfl ?_
  refine jv_vI0 (As := [.int x1]) C lk_X9_132 rfl dX9_binType_8 rfl rfl (by decide) (by decide) (by decide) (Nat.le_of_ble_eq_true rfl) h (fun _ _ h => ct_X6_at h) (fun v4 M3 h => ?_)
  exact jv_iret C hr dX9_binType_11 h
theorem dX9_binValue_0 : decode cX9_binValue 0 = .ok (.iconst 0, 1) := by decide +kernel
theorem dX9_binValue_1 : decode cX9_binValue 1 = .ok (.istore_n 1, 1) := by decide +kernel
theorem dX9_binValue_2 : decode cX9_binValue 2 = .ok (.iconst 0, 1) := by decide +kernel
theorem dX9_binValue_3 : decode cX9_binValue 3 = .ok (.istore_n 2, 1) := by decide +kernel
theorem dX9_binValue_4 : decode cX9_binValue 4 = .ok (.iload_n 2, 1) := by decide +kernel
theorem dX9_binValue_5 : decode cX9_binValue 5 = .ok (.aload_n 0, 1) := by decide +kernel
theorem dX9_binValue_6 : decode cX9_binValue 6 = .ok (.getfield 23, 3) := by decide +kernel
theorem dX9_binValue_9 : decode cX9_binValue 9 = .ok (.getfield 120, 3) := by decide +kernel
theorem dX9_binValue_12 : decode cX9_binValue 12 = .ok (.getfield 124, 3) := by decide +kernel
theorem dX9_binValue_15 : decode cX9_binValue 15 = .ok (.if_icmp .ge 48, 3) := by decide +kernel
theorem dX9_binValue_18 : decode cX9_binValue 18 = .ok (.iload_n 1, 1) := by decide +kernel
theorem dX9_binValue_19 : decode cX9_binValue 19 = .ok (.aload_n 0, 1) := by decide +kernel
theorem dX9_binValue_20 : decode cX9_binValue 20 = .ok (.getfield 33, 3) := by decide +kernel
theorem dX9_binValue_23 : decode cX9_binValue 23 = .ok (.getfield 199, 3) := by decide +kernel
theorem dX9_binValue_26 : decode cX9_binValue 26 = .ok (.iload_n 2, 1) := by decide +kernel
theorem dX9_binValue_27 : decode cX9_binValue 27 = .ok (.invokevirtual 132, 3) := by decide +kernel
theorem dX9_binValue_30 : decode cX9_binValue 30 = .ok (.aload_n 0, 1) := by decide +kernel
theorem dX9_binValue_31 : decode cX9_binValue 31 = .ok (.getfield 23, 3) := by decide +kernel
theorem dX9_binValue_34 : decode cX9_binValue 34 = .ok (.getfield 102, 3) := by decide +kernel
theorem dX9_binValue_37 : decode cX9_binValue 37 = .ok (.getfield 129, 3) := by decide +kernel
theorem dX9_binValue_40 : decode cX9_binValue 40 = .ok (.aload_n 0, 1) := by decide +kernel
theorem dX9_binValue_41 : decode cX9_binValue 41 = .ok (.getfield 23, 3) := by decide +kernel
theorem dX9_binValue_44 : decode cX9_binValue 44 = .ok (.getfield 120, 3) := by decide +kernel
theorem dX9_binValue_47 : decode cX9_binValue 47 = .ok (.iload_n 2, 1) := by decide +kernel
theorem dX9_binValue_48 : decode cX9_binValue 48 = .ok (.invokevirtual 132, 3) := by decide +kernel
theorem dX9_binValue_51 : decode cX9_binValue 51 = .ok (.invokevirtual 132, 3) := by decide +kernel
theorem dX9_binValue_54 : decode cX9_binValue 54 = .ok (.imul, 1) := by decide +kernel
theorem dX9_binValue_55 : decode cX9_binValue 55 = .ok (.iadd, 1) := by decide +kernel
theorem dX9_binValue_56 : decode cX9_binValue 56 = .ok (.istore_n 1, 1) := by decide +kernel
theorem dX9_binValue_57 : decode cX9_binValue 57 = .ok (.iinc 2 1, 3) := by decide +kernel
theorem dX9_binValue_60 : decode cX9_binValue 60 = .ok (.goto (-56), 3) := by decide +kernel
theorem dX9_binValue_63 : decode cX9_binValue 63 = .ok (.iload_n 1, 1) := by decide +kernel
theorem dX9_binValue_64 : decode cX9_binValue 64 = .ok (.ireturn, 1) := by decide +kernel
def fn_X9_binValue_4 (N : Nat) : Nat → Mem → Nat → Int32 → Int32 → Option (Int32 × Mem)
  | 0, _, _, _, _ => none
  | n + 1, M, a0, x1, x2 =>
    (mm_gR M a0 9 3).bind fun b1 =>
    (mm_gR M b1 0 2).bind fun b2 =>
    (mm_gI M b2 6 1).bind fun v3 =>
    if v3 ≤ x2 then
      some (x1, M)
    else
      (mm_gR M a0 9 5).bind fun b4 =>
      (mm_gR M b4 7 7).bind fun b5 =>
      (mm_ck M b5 6).bind fun _ => mm_b2 (fn_X6_at N M b5 x2) fun v7 M6 =>
      (mm_gR M6 a0 9 3).bind fun b8 =>
      (mm_gR M6 b8 0 0).bind fun b9 =>
      (mm_gR M6 b9 3 0).bind fun b10 =>
      (mm_gR M6 a0 9 3).bind fun b11 =>
      (mm_gR M6 b11 0 2).bind fun b12 =>
      (mm_ck M6 b12 6).bind fun _ => mm_b2 (fn_X6_at N M6 b12 x2) fun v14 M13 =>
      (mm_ck M13 b10 6).bind fun _ => mm_b2 (fn_X6_at N M13 b10 v14) fun v16 M15 =>
      fn_X9_binValue_4 N n M15 a0 ((x1 + (v7 * v16))) ((x2 + 1))
set_option maxRecDepth 100000 in
set_option maxHeartbeats 4000000 in
theorem bk_X9_binValue_4 {Γ : Gm} {ω : Wd} {k N : Nat} {r : Int32} {M' : Mem} (C : Cx Γ cX9_binValue 3 RX9 ω 1 0 0) (hr : Γ.meth.sig.returnType = (some .int)) : ∀ (n : Nat) (M : Mem) (a0 : Nat) (x1 : Int32) (x2 : Int32), fn_X9_binValue_4 N n M a0 x1 x2 = some (r, M') → JJ Γ (QF Γ ω k 0 0 (some (.int r)) M') 3 ω k M 0 0 4 [(0, .ref a0), (1, .int x1), (2, .int x2)] [] := by
  intro n
  induction n with
  | zero => intro M a0 x1 x2 h; exact jv_no h
  | succ n ih =>
    intro M a0 x1 x2 h
    rw [fn_X9_binValue_4.eq_2] at h
    refine jv_iload_n C dX9_binValue_4 rfl 2 rfl ?_
    refine jv_aload_n C dX9_binValue_5 rfl 0 rfl ?_
    refine jv_getR C fa_X9_23 dX9_binValue_6 h (fun b1 h => ?_)
    refine jv_getR C fa_X9_120 dX9_binValue_9 h (fun b2 h => ?_)
    refine jv_getI C fa_X9_124 dX9_binValue_12 h (fun v3 h => ?_)
    refine jv_icmp_ge (tgt := 63) C dX9_binValue_15 (by decide) h (fun h => ?_) (fun h => ?_)
    · refine jv_iload_n C dX9_binValue_63 rfl 1 rfl ?_
      exact jv_iret C hr dX9_binValue_64 h
    · refine jv_iload_n C dX9_binValue_18 rfl 1 rfl ?_
      refine jv_aload_n C dX9_binValue_19 rfl 0 rfl ?_
      refine jv_getR C fa_X9_33 dX9_binValue_20 h (fun b4 h => ?_)
      refine jv_getR C fa_X9_199 dX9_binValue_23 h (fun b5 h => ?_)
      refine jv_iload_n C dX9_binValue_26 rfl 2 rfl ?_
      refine jv_vI0 (As := [.int x2]) C lk_X9_132 rfl dX9_binValue_27 rfl rfl (by decide) (by decide) (by decide) (Nat.le_of_ble_eq_true rfl) h (fun _ _ h => ct_X6_at h) (fun v7 M6 h => ?_)
      refine jv_aload_n C dX9_binValue_30 rfl 0 rfl ?_
      refine jv_getR C fa_X9_23 dX9_binValue_31 h (fun b8 h => ?_)
      refine jv_getR C fa_X9_102 dX9_binValue_34 h (fun b9 h => ?_)
      refine jv_getR C fa_X9_129 dX9_binValue_37 h (fun b10 h => ?_)
      refine jv_aload_n C dX9_binValue_40 rfl 0 rfl ?_
      refine jv_getR C fa_X9_23 dX9_binValue_41 h (fun b11 h => ?_)
      refine jv_getR C fa_X9_120 dX9_binValue_44 h (fun b12 h => ?_)
      refine jv_iload_n C dX9_binValue_47 rfl 2 rfl ?_
      refine jv_vI0 (As := [.int x2]) C lk_X9_132 rfl dX9_binValue_48 rfl rfl (by decide) (by decide) (by decide) (Nat.le_of_ble_eq_true rfl) h (fun _ _ h => ct_X6_at h) (fun v14 M13 h => ?_)
      refine jv_vI0 (As := [.int v14]) C lk_X9_132 rfl dX9_binValue_51 rfl rfl (by decide) (by decide) (by decide) (Nat.le_of_ble_eq_true rfl) h (fun _ _ h => ct_X6_at h) (fun v16 M15 h => ?_)
      refine jv_imul C dX9_binValue_54 ?_
      refine jv_iadd C dX9_binValue_55 ?_
      refine jv_istore_n (lv' := [(1, .int (x1 + (v7 * v16))), (0, .ref a0), (2, .int x2)]) C dX9_binValue_56 rfl (by decide) rfl ?_
      refine jv_iinc (v := 1) (lv' := [(2, .int (x2 + 1)), (1, .int (x1 + (v7 * v16))), (0, .ref a0)]) C dX9_binValue_57 2 rfl (by decide) (by decide) rfl ?_
      refine jv_goto (tgt := 4) C dX9_binValue_60 (by decide) ?_
      refine jv_sub [2, 1, 0] rfl ?_
      exact ih _ _ _ _ h
def fn_X9_binValue (N : Nat) (M : Mem) (a0 : Nat) : Option (Int32 × Mem) :=
  fn_X9_binValue_4 N N M a0 0 0
set_option maxRecDepth 100000 in
set_option maxHeartbeats 4000000 in
theorem ct_X9_binValue {l : Launch} {ω : Wd} {k N : Nat} {M : Mem} {a0 : Nat} {r : Int32} {M' : Mem} (h : fn_X9_binValue N M a0 = some (r, M')) : CM l ω k yX9_binValue cX9_binValue 3 (some .int) 1 0 0 [.ref a0] M (some (.int r)) M' := by
  refine CM.of (by decide) (Nat.le_of_ble_eq_true rfl) fun Γ hl C hr hi => ?_
  subst hl
  unfold fn_X9_binValue at h
  refine jv_iconst (v := 0) C dX9_binValue_0 (by decide) ?_
  refine jv_istore_n (lv' := [(1, .int 0), (0, .ref a0)]) C dX9_binValue_1 rfl (by decide) rfl ?_
  refine jv_iconst (v := 0) C dX9_binValue_2 (by decide) ?_
  refine jv_istore_n (lv' := [(2, .int 0), (1, .int 0), (0, .ref a0)]) C dX9_binValue_3 rfl (by decide) rfl ?_
  refine jv_sub [2, 1, 0] rfl ?_
  exact bk_X9_binValue_4 C hr _ _ _ _ _ h
theorem dX9_calibrate_0 : decode cX9_calibrate 0 = .ok (.aload_n 0, 1) := by decide +kernel
theorem dX9_calibrate_1 : decode cX9_calibrate 1 = .ok (.iload_n 1, 1) := by decide +kernel
theorem dX9_calibrate_2 : decode cX9_calibrate 2 = .ok (.invokevirtual 139, 3) := by decide +kernel
theorem dX9_calibrate_5 : decode cX9_calibrate 5 = .ok (.ifCond .eq 11, 3) := by decide +kernel
theorem dX9_calibrate_8 : decode cX9_calibrate 8 = .ok (.iload_n 2, 1) := by decide +kernel
theorem dX9_calibrate_9 : decode cX9_calibrate 9 = .ok (.iload_n 3, 1) := by decide +kernel
theorem dX9_calibrate_10 : decode cX9_calibrate 10 = .ok (.invokestatic 150, 3) := by decide +kernel
theorem dX9_calibrate_13 : decode cX9_calibrate 13 = .ok (.ifCond .ne 5, 3) := by decide +kernel
theorem dX9_calibrate_16 : decode cX9_calibrate 16 = .ok (.iconst 0, 1) := by decide +kernel
theorem dX9_calibrate_17 : decode cX9_calibrate 17 = .ok (.ireturn, 1) := by decide +kernel
theorem dX9_calibrate_18 : decode cX9_calibrate 18 = .ok (.aload_n 0, 1) := by decide +kernel
theorem dX9_calibrate_19 : decode cX9_calibrate 19 = .ok (.getfield 40, 3) := by decide +kernel
theorem dX9_calibrate_22 : decode cX9_calibrate 22 = .ok (.aload_n 0, 1) := by decide +kernel
theorem dX9_calibrate_23 : decode cX9_calibrate 23 = .ok (.getfield 33, 3) := by decide +kernel
theorem dX9_calibrate_26 : decode cX9_calibrate 26 = .ok (.invokevirtual 279, 3) := by decide +kernel
theorem dX9_calibrate_29 : decode cX9_calibrate 29 = .ok (.aload_n 0, 1) := by decide +kernel
theorem dX9_calibrate_30 : decode cX9_calibrate 30 = .ok (.getfield 33, 3) := by decide +kernel
theorem dX9_calibrate_33 : decode cX9_calibrate 33 = .ok (.aload_n 0, 1) := by decide +kernel
theorem dX9_calibrate_34 : decode cX9_calibrate 34 = .ok (.getfield 23, 3) := by decide +kernel
theorem dX9_calibrate_37 : decode cX9_calibrate 37 = .ok (.getfield 102, 3) := by decide +kernel
theorem dX9_calibrate_40 : decode cX9_calibrate 40 = .ok (.getfield 283, 3) := by decide +kernel
theorem dX9_calibrate_43 : decode cX9_calibrate 43 = .ok (.iload_n 1, 1) := by decide +kernel
theorem dX9_calibrate_44 : decode cX9_calibrate 44 = .ok (.invokevirtual 132, 3) := by decide +kernel
theorem dX9_calibrate_47 : decode cX9_calibrate 47 = .ok (.iload_n 2, 1) := by decide +kernel
theorem dX9_calibrate_48 : decode cX9_calibrate 48 = .ok (.isub, 1) := by decide +kernel
theorem dX9_calibrate_49 : decode cX9_calibrate 49 = .ok (.putfield 159, 3) := by decide +kernel
theorem dX9_calibrate_52 : decode cX9_calibrate 52 = .ok (.aload_n 0, 1) := by decide +kernel
theorem dX9_calibrate_53 : decode cX9_calibrate 53 = .ok (.getfield 33, 3) := by decide +kernel
theorem dX9_calibrate_56 : decode cX9_calibrate 56 = .ok (.aload_n 0, 1) := by decide +kernel
theorem dX9_calibrate_57 : decode cX9_calibrate 57 = .ok (.getfield 23, 3) := by decide +kernel
theorem dX9_calibrate_60 : decode cX9_calibrate 60 = .ok (.getfield 102, 3) := by decide +kernel
theorem dX9_calibrate_63 : decode cX9_calibrate 63 = .ok (.getfield 286, 3) := by decide +kernel
theorem dX9_calibrate_66 : decode cX9_calibrate 66 = .ok (.iload_n 1, 1) := by decide +kernel
theorem dX9_calibrate_67 : decode cX9_calibrate 67 = .ok (.invokevirtual 132, 3) := by decide +kernel
theorem dX9_calibrate_70 : decode cX9_calibrate 70 = .ok (.iload_n 3, 1) := by decide +kernel
theorem dX9_calibrate_71 : decode cX9_calibrate 71 = .ok (.isub, 1) := by decide +kernel
theorem dX9_calibrate_72 : decode cX9_calibrate 72 = .ok (.putfield 162, 3) := by decide +kernel
theorem dX9_calibrate_75 : decode cX9_calibrate 75 = .ok (.iconst 1, 1) := by decide +kernel
theorem dX9_calibrate_76 : decode cX9_calibrate 76 = .ok (.ireturn, 1) := by decide +kernel
def fn_X9_calibrate (N : Nat) (M : Mem) (a0 : Nat) (x1 : Int32) (x2 : Int32) (x3 : Int32) : Option (Int32 × Mem) :=
  (mm_ck M a0 9).bind fun _ => mm_b2 (fn_X9_isType N M a0 x1) fun v2 M1 =>
  if v2 = 0 then
    some (0, M1)
  else
    mm_b2 (fn_X9_isMeasurement N M1 x2 x3) fun v4 M3 =>
    if v4 = 0 then
      some (0, M3)
    else
      (mm_gR M3 a0 9 6).bind fun b5 =>
      (mm_gR M3 a0 9 5).bind fun b6 =>
      (mm_ck M3 b5 1).bind fun _ => mm_b2 (fn_X1_push N M3 b5 b6) fun _ M7 =>
      (mm_gR M7 a0 9 5).bind fun b8 =>
      (mm_gR M7 a0 9 3).bind fun b9 =>
      (mm_gR M7 b9 0 0).bind fun b10 =>
      (mm_gR M7 b10 3 1).bind fun b11 =>
      (mm_ck M7 b11 6).bind fun _ => mm_b2 (fn_X6_at N M7 b11 x1) fun v13 M12 =>
      (mm_pV M12 b8 7 0 (.int (v13 - x2))).bind fun M14 =>
      (mm_gR M14 a0 9 5).bind fun b15 =>
      (mm_gR M14 a0 9 3).bind fun b16 =>
      (mm_gR M14 b16 0 0).bind fun b17 =>
      (mm_gR M14 b17 3 3).bind fun b18 =>
      (mm_ck M14 b18 6).bind fun _ => mm_b2 (fn_X6_at N M14 b18 x1) fun v20 M19 =>
      (mm_pV M19 b15 7 1 (.int (v20 - x3))).bind fun M21 =>
      some (1, M21)
set_option maxRecDepth 100000 in
set_option maxHeartbeats 4000000 in
theorem ct_X9_calibrate {l : Launch} {ω : Wd} {k N : Nat} {M : Mem} {a0 : Nat} {x1 : Int32} {x2 : Int32} {x3 : Int32} {r : Int32} {M' : Mem} (h : fn_X9_calibrate N M a0 x1 x2 x3 = some (r, M')) : CM l ω k yX9_calibrate cX9_calibrate 4 (some .boolean) 4 0 0 [.ref a0, .int x1, .int x2, .int x3] M (some (.int r)) M' := by
  refine CM.of (by decide) (Nat.le_of_ble_eq_true rfl) fun Γ hl C hr hi => ?_
  subst hl
  unfold fn_X9_calibrate at h
  refine jv_aload_n C dX9_calibrate_0 rfl 0 rfl ?_
  refine jv_iload_n C dX9_calibrate_1 rfl 1 rfl ?_
  refine jv_vI0 (As := [.int x1]) C lk_X9_139 rfl dX9_calibrate_2 rfl rfl (by decide) (by decide) (by decide) (Nat.le_of_ble_eq_true rfl) h (fun _ _ h => ct_X9_isType h) (fun v2 M1 h => ?_)
  refine jv_if_eq (tgt := 16) C dX9_calibrate_5 (by decide) h (fun h => ?_) (fun h => ?_)
  · refine jv_iconst (v := 0) C dX9_calibrate_16 (by decide) ?_
    exact jv_zretc C hr (Or.inl rfl) dX9_calibrate_17 h
  · refine jv_iload_n C dX9_calibrate_8 rfl 2 rfl ?_
    refine jv_iload_n C dX9_calibrate_9 rfl 3 rfl ?_
    refine jv_sI0 (As := [.int x2, .int x3]) C lk_X9_150 dX9_calibrate_10 rfl rfl (by decide) (by decide) (by decide) (Nat.le_of_ble_eq_true rfl) h (fun _ _ h => ct_X9_isMeasurement h) (fun v4 M3 h => ?_)
    refine jv_if_ne (tgt := 18) C dX9_calibrate_13 (by decide) h (fun h => ?_) (fun h => ?_)
    · refine jv_aload_n C dX9_calibrate_18 rfl 0 rfl ?_
      refine jv_getR C fa_X9_40 dX9_calibrate_19 h (fun b5 h => ?_)
      refine jv_aload_n C dX9_calibrate_22 rfl 0 rfl ?_
      refine jv_getR C fa_X9_33 dX9_calibrate_23 h (fun b6 h => ?_)
      refine jv_vV0 (As := [.ref b6]) C lk_X9_279 rfl dX9_calibrate_26 rfl rfl (by decide) (by decide) (by decide) (Nat.le_of_ble_eq_true rfl) h (fun _ _ h => ct_X1_push h) (fun _ M7 h => ?_)
      refine jv_aload_n C dX9_calibrate_29 rfl 0 rfl ?_
      refine jv_getR C fa_X9_33 dX9_calibrate_30 h (fun b8 h => ?_)
      refine jv_aload_n C dX9_calibrate_33 rfl 0 rfl ?_
      refine jv_getR C fa_X9_23 dX9_calibrate_34 h (fun b9 h => ?_)
      refine jv_getR C fa_X9_102 dX9_calibrate_37 h (fun b10 h => ?_)
      refine jv_getR C fa_X9_283 dX9_calibrate_40 h (fun b11 h => ?_)
      refine jv_iload_n C dX9_calibrate_43 rfl 1 rfl ?_
      refine jv_vI0 (As := [.int x1]) C lk_X9_132 rfl dX9_calibrate_44 rfl rfl (by decide) (by decide) (by decide) (Nat.le_of_ble_eq_true rfl) h (fun _ _ h => ct_X6_at h) (fun v13 M12 h => ?_)
      refine jv_iload_n C dX9_calibrate_47 rfl 2 rfl ?_
      refine jv_isub C dX9_calibrate_48 ?_
      refine jv_putI C fp_X9_159 dX9_calibrate_49 h (fun M14 h => ?_)
      refine jv_aload_n C dX9_calibrate_52 rfl 0 rfl ?_
      refine jv_getR C fa_X9_33 dX9_calibrate_53 h (fun b15 h => ?_)
      refine jv_aload_n C dX9_calibrate_56 rfl 0 rfl ?_
      refine jv_getR C fa_X9_23 dX9_calibrate_57 h (fun b16 h => ?_)
      refine jv_getR C fa_X9_102 dX9_calibrate_60 h (fun b17 h => ?_)
      refine jv_getR C fa_X9_286 dX9_calibrate_63 h (fun b18 h => ?_)
      refine jv_iload_n C dX9_calibrate_66 rfl 1 rfl ?_
      refine jv_vI0 (As := [.int x1]) C lk_X9_132 rfl dX9_calibrate_67 rfl rfl (by decide) (by decide) (by decide) (Nat.le_of_ble_eq_true rfl) h (fun _ _ h => ct_X6_at h) (fun v20 M19 h => ?_)
      refine jv_iload_n C dX9_calibrate_70 rfl 3 rfl ?_
      refine jv_isub C dX9_calibrate_71 ?_
      refine jv_putI C fp_X9_162 dX9_calibrate_72 h (fun M21 h => ?_)
      refine jv_iconst (v := 1) C dX9_calibrate_75 (by decide) ?_
      exact jv_zretc C hr (Or.inr rfl) dX9_calibrate_76 h
    · refine jv_iconst (v := 0) C dX9_calibrate_16 (by decide) ?_
      exact jv_zretc C hr (Or.inl rfl) dX9_calibrate_17 h
theorem dX9_changeBag_0 : decode cX9_changeBag 0 = .ok (.aload_n 0, 1) := by decide +kernel
theorem dX9_changeBag_1 : decode cX9_changeBag 1 = .ok (.getfield 23, 3) := by decide +kernel
theorem dX9_changeBag_4 : decode cX9_changeBag 4 = .ok (.getfield 120, 3) := by decide +kernel
theorem dX9_changeBag_7 : decode cX9_changeBag 7 = .ok (.iload_n 1, 1) := by decide +kernel
theorem dX9_changeBag_8 : decode cX9_changeBag 8 = .ok (.invokevirtual 183, 3) := by decide +kernel
theorem dX9_changeBag_11 : decode cX9_changeBag 11 = .ok (.ifCond .ne 5, 3) := by decide +kernel
theorem dX9_changeBag_14 : decode cX9_changeBag 14 = .ok (.iconst (-1), 1) := by decide +kernel
theorem dX9_changeBag_15 : decode cX9_changeBag 15 = .ok (.ireturn, 1) := by decide +kernel
theorem dX9_changeBag_16 : decode cX9_changeBag 16 = .ok (.aload_n 0, 1) := by decide +kernel
theorem dX9_changeBag_17 : decode cX9_changeBag 17 = .ok (.getfield 33, 3) := by decide +kernel
theorem dX9_changeBag_20 : decode cX9_changeBag 20 = .ok (.getfield 199, 3) := by decide +kernel
theorem dX9_changeBag_23 : decode cX9_changeBag 23 = .ok (.iload_n 1, 1) := by decide +kernel
theorem dX9_changeBag_24 : decode cX9_changeBag 24 = .ok (.invokevirtual 132, 3) := by decide +kernel
theorem dX9_changeBag_27 : decode cX9_changeBag 27 = .ok (.istore_n 2, 1) := by decide +kernel
theorem dX9_changeBag_28 : decode cX9_changeBag 28 = .ok (.iload_n 2, 1) := by decide +kernel
theorem dX9_changeBag_29 : decode cX9_changeBag 29 = .ok (.ifCond .ne 6, 3) := by decide +kernel
theorem dX9_changeBag_32 : decode cX9_changeBag 32 = .ok (.bipush (-2), 2) := by decide +kernel
theorem dX9_changeBag_34 : decode cX9_changeBag 34 = .ok (.ireturn, 1) := by decide +kernel
theorem dX9_changeBag_35 : decode cX9_changeBag 35 = .ok (.aload_n 0, 1) := by decide +kernel
theorem dX9_changeBag_36 : decode cX9_changeBag 36 = .ok (.getfield 33, 3) := by decide +kernel
theorem dX9_changeBag_39 : decode cX9_changeBag 39 = .ok (.getfield 214, 3) := by decide +kernel
theorem dX9_changeBag_42 : decode cX9_changeBag 42 = .ok (.invokevirtual 289, 3) := by decide +kernel
theorem dX9_changeBag_45 : decode cX9_changeBag 45 = .ok (.ifCond .eq 6, 3) := by decide +kernel
theorem dX9_changeBag_48 : decode cX9_changeBag 48 = .ok (.bipush (-3), 2) := by decide +kernel
theorem dX9_changeBag_50 : decode cX9_changeBag 50 = .ok (.ireturn, 1) := by decide +kernel
theorem dX9_changeBag_51 : decode cX9_changeBag 51 = .ok (.aload_n 0, 1) := by decide +kernel
theorem dX9_changeBag_52 : decode cX9_changeBag 52 = .ok (.getfield 40, 3) := by decide +kernel
theorem dX9_changeBag_55 : decode cX9_changeBag 55 = .ok (.aload_n 0, 1) := by decide +kernel
theorem dX9_changeBag_56 : decode cX9_changeBag 56 = .ok (.getfield 33, 3) := by decide +kernel
theorem dX9_changeBag_59 : decode cX9_changeBag 59 = .ok (.invokevirtual 279, 3) := by decide +kernel
theorem dX9_changeBag_62 : decode cX9_changeBag 62 = .ok (.aload_n 0, 1) := by decide +kernel
theorem dX9_changeBag_63 : decode cX9_changeBag 63 = .ok (.getfield 33, 3) := by decide +kernel
theorem dX9_changeBag_66 : decode cX9_changeBag 66 = .ok (.getfield 214, 3) := by decide +kernel
theorem dX9_changeBag_69 : decode cX9_changeBag 69 = .ok (.aload_n 0, 1) := by decide +kernel
theorem dX9_changeBag_70 : decode cX9_changeBag 70 = .ok (.getfield 23, 3) := by decide +kernel
theorem dX9_changeBag_73 : decode cX9_changeBag 73 = .ok (.getfield 120, 3) := by decide +kernel
theorem dX9_changeBag_76 : decode cX9_changeBag 76 = .ok (.iload_n 1, 1) := by decide +kernel
theorem dX9_changeBag_77 : decode cX9_changeBag 77 = .ok (.invokevirtual 132, 3) := by decide +kernel
theorem dX9_changeBag_80 : decode cX9_changeBag 80 = .ok (.invokevirtual 295, 3) := by decide +kernel
theorem dX9_changeBag_83 : decode cX9_changeBag 83 = .ok (.aload_n 0, 1) := by decide +kernel
theorem dX9_changeBag_84 : decode cX9_changeBag 84 = .ok (.getfield 33, 3) := by decide +kernel
theorem dX9_changeBag_87 : decode cX9_changeBag 87 = .ok (.getfield 217, 3) := by decide +kernel
theorem dX9_changeBag_90 : decode cX9_changeBag 90 = .ok (.iload_n 2, 1) := by decide +kernel
theorem dX9_changeBag_91 : decode cX9_changeBag 91 = .ok (.invokevirtual 295, 3) := by decide +kernel
theorem dX9_changeBag_94 : decode cX9_changeBag 94 = .ok (.aload_n 0, 1) := by decide +kernel
theorem dX9_changeBag_95 : decode cX9_changeBag 95 = .ok (.getfield 33, 3) := by decide +kernel
theorem dX9_changeBag_98 : decode cX9_changeBag 98 = .ok (.getfield 223, 3) := by decide +kernel
theorem dX9_changeBag_101 : decode cX9_changeBag 101 = .ok (.iconst (-1), 1) := by decide +kernel
theorem dX9_changeBag_102 : decode cX9_changeBag 102 = .ok (.invokevirtual 295, 3) := by decide +kernel
theorem dX9_changeBag_105 : decode cX9_changeBag 105 = .ok (.aload_n 0, 1) := by decide +kernel
theorem dX9_changeBag_106 : decode cX9_changeBag 106 = .ok (.getfield 33, 3) := by decide +kernel
theorem dX9_changeBag_109 : decode cX9_changeBag 109 = .ok (.getfield 199, 3) := by decide +kernel
theorem dX9_changeBag_112 : decode cX9_changeBag 112 = .ok (.iload_n 1, 1) := by decide +kernel
theorem dX9_changeBag_113 : decode cX9_changeBag 113 = .ok (.iload_n 2, 1) := by decide +kernel
theorem dX9_changeBag_114 : decode cX9_changeBag 114 = .ok (.ineg, 1) := by decide +kernel
theorem dX9_changeBag_115 : decode cX9_changeBag 115 = .ok (.invokevirtual 321, 3) := by decide +kernel
theorem dX9_changeBag_118 : decode cX9_changeBag 118 = .ok (.aload_n 0, 1) := by decide +kernel
theorem dX9_changeBag_119 : decode cX9_changeBag 119 = .ok (.getfield 33, 3) := by decide +kernel
theorem dX9_changeBag_122 : decode cX9_changeBag 122 = .ok (.getfield 214, 3) := by decide +kernel
theorem dX9_changeBag_125 : decode cX9_changeBag 125 = .ok (.getfield 124, 3) := by decide +kernel
theorem dX9_changeBag_128 : decode cX9_changeBag 128 = .ok (.iconst 1, 1) := by decide +kernel
theorem dX9_changeBag_129 : decode cX9_changeBag 129 = .ok (.isub, 1) := by decide +kernel
theorem dX9_changeBag_130 : decode cX9_changeBag 130 = .ok (.ireturn, 1) := by decide +kernel
def fn_X9_changeBag (N : Nat) (M : Mem) (a0 : Nat) (x1 : Int32) : Option (Int32 × Mem) :=
  (mm_gR M a0 9 3).bind fun b1 =>
  (mm_gR M b1 0 2).bind fun b2 =>
  (mm_ck M b2 6).bind fun _ => mm_b2 (fn_X6_has N M b2 x1) fun v4 M3 =>
  if v4 = 0 then
    some ((-1), M3)
  else
    (mm_gR M3 a0 9 5).bind fun b5 =>
    (mm_gR M3 b5 7 7).bind fun b6 =>
    (mm_ck M3 b6 6).bind fun _ => mm_b2 (fn_X6_at N M3 b6 x1) fun v8 M7 =>
    if v8 = 0 then
      some ((-2), M7)
    else
      (mm_gR M7 a0 9 5).bind fun b9 =>
      (mm_gR M7 b9 7 10).bind fun b10 =>
      (mm_ck M7 b10 6).bind fun _ => mm_b2 (fn_X6_isFull N M7 b10) fun v12 M11 =>
      if v12 = 0 then
        (mm_gR M11 a0 9 6).bind fun b13 =>
        (mm_gR M11 a0 9 5).bind fun b14 =>
        (mm_ck M11 b13 1).bind fun _ => mm_b2 (fn_X1_push N M11 b13 b14) fun _ M15 =>
        (mm_gR M15 a0 9 5).bind fun b16 =>
        (mm_gR M15 b16 7 10).bind fun b17 =>
        (mm_gR M15 a0 9 3).bind fun b18 =>
        (mm_gR M15 b18 0 2).bind fun b19 =>
        (mm_ck M15 b19 6).bind fun _ => mm_b2 (fn_X6_at N M15 b19 x1) fun v21 M20 =>
        (mm_ck M20 b17 6).bind fun _ => mm_b2 (fn_X6_add N M20 b17 v21) fun _ M22 =>
        (mm_gR M22 a0 9 5).bind fun b23 =>
        (mm_gR M22 b23 7 11).bind fun b24 =>
        (mm_ck M22 b24 6).bind fun _ => mm_b2 (fn_X6_add N M22 b24 v8) fun _ M25 =>
        (mm_gR M25 a0 9 5).bind fun b26 =>
        (mm_gR M25 b26 7 12).bind fun b27 =>
        (mm_ck M25 b27 6).bind fun _ => mm_b2 (fn_X6_add N M25 b27 ((-1))) fun _ M28 =>
        (mm_gR M28 a0 9 5).bind fun b29 =>
        (mm_gR M28 b29 7 7).bind fun b30 =>
        (mm_ck M28 b30 6).bind fun _ => mm_b2 (fn_X6_increase N M28 b30 x1 ((0 - v8))) fun _ M31 =>
        (mm_gR M31 a0 9 5).bind fun b32 =>
        (mm_gR M31 b32 7 10).bind fun b33 =>
        (mm_gI M31 b33 6 1).bind fun v34 =>
        some ((v34 - 1), M31)
      else
        some ((-3), M11)
set_option maxRecDepth 100000 in
set_option maxHeartbeats 4000000 in
theorem ct_X9_changeBag {l : Launch} {ω : Wd} {k N : Nat} {M : Mem} {a0 : Nat} {x1 : Int32} {r : Int32} {M' : Mem} (h : fn_X9_changeBag N M a0 x1 = some (r, M')) : CM l ω k yX9_changeBag cX9_changeBag 3 (some .int) 4 0 0 [.ref a0, .int x1] M (some (.int r)) M' := by
  refine CM.of (by decide) (Nat.le_of_ble_eq_true rfl) fun Γ hl C hr hi => ?_
  subst hl
  unfold fn_X9_changeBag at h
  refine jv_aload_n C dX9_changeBag_0 rfl 0 rfl ?_
  refine jv_getR C fa_X9_23 dX9_changeBag_1 h (fun b1 h => ?_)
  refine jv_getR C fa_X9_120 dX9_changeBag_4 h (fun b2 h => ?_)
  refine jv_iload_n C dX9_changeBag_7 rfl 1 rfl ?_
  refine jv_vI0 (As := [.int x1]) C lk_X9_183 rfl dX9_changeBag_8 rfl rfl (by decide) (by decide) (by decide) (Nat.le_of_ble_eq_true rfl) h (fun _ _ h => ct_X6_has h) (fun v4 M3 h => ?_)
  refine jv_if_ne (tgt := 16) C dX9_changeBag_11 (by decide) h (fun h => ?_) (fun h => ?_)
  · refine jv_aload_n C dX9_changeBag_16 rfl 0 rfl ?_
    refine jv_getR C fa_X9_33 dX9_changeBag_17 h (fun b5 h => ?_)
    refine jv_getR C fa_X9_199 dX9_changeBag_20 h (fun b6 h => ?_)
    refine jv_iload_n C dX9_changeBag_23 rfl 1 rfl ?_
    refine jv_vI0 (As := [.int x1]) C lk_X9_132 rfl dX9_changeBag_24 rfl rfl (by decide) (by decide) (by decide) (Nat.le_of_ble_eq_true rfl) h (fun _ _ h => ct_X6_at h) (fun v8 M7 h => ?_)
    refine jv_istore_n (lv' := [(2, .int v8), (0, .ref a0), (1, .int x1)]) C dX9_changeBag_27 rfl (by decide) rfl ?_
    refine jv_iload_n C dX9_changeBag_28 rfl 0 rfl ?_
    refine jv_if_ne (tgt := 35) C dX9_changeBag_29 (by decide) h (fun h => ?_) (fun h => ?_)
    · refine jv_aload_n C dX9_changeBag_35 rfl 1 rfl ?_
      refine jv_getR C fa_X9_33 dX9_changeBag_36 h (fun b9 h => ?_)
      refine jv_getR C fa_X9_214 dX9_changeBag_39 h (fun b10 h => ?_)
      refine jv_vI0 (As := []) C lk_X9_289 rfl dX9_changeBag_42 rfl rfl (by decide) (by decide) (by decide) (Nat.le_of_ble_eq_true rfl) h (fun _ _ h => ct_X6_isFull h) (fun v12 M11 h => ?_)
      refine jv_if_eq (tgt := 51) C dX9_changeBag_45 (by decide) h (fun h => ?_) (fun h => ?_)
      · refine jv_aload_n C dX9_changeBag_51 rfl 1 rfl ?_
        refine jv_getR C fa_X9_40 dX9_changeBag_52 h (fun b13 h => ?_)
        refine jv_aload_n C dX9_changeBag_55 rfl 1 rfl ?_
        refine jv_getR C fa_X9_33 dX9_changeBag_56 h (fun b14 h => ?_)
        refine jv_vV0 (As := [.ref b14]) C lk_X9_279 rfl dX9_changeBag_59 rfl rfl (by decide) (by decide) (by decide) (Nat.le_of_ble_eq_true rfl) h (fun _ _ h => ct_X1_push h) (fun _ M15 h => ?_)
        refine jv_aload_n C dX9_changeBag_62 rfl 1 rfl ?_
        refine jv_getR C fa_X9_33 dX9_changeBag_63 h (fun b16 h => ?_)
        refine jv_getR C fa_X9_214 dX9_changeBag_66 h (fun b17 h => ?_)
        refine jv_aload_n C dX9_changeBag_69 rfl 1 rfl ?_
        refine jv_getR C fa_X9_23 dX9_changeBag_70 h (fun b18 h => ?_)
        refine jv_getR C fa_X9_120 dX9_changeBag_73 h (fun b19 h => ?_)
        refine jv_iload_n C dX9_changeBag_76 rfl 2 rfl ?_
        refine jv_vI0 (As := [.int x1]) C lk_X9_132 rfl dX9_changeBag_77 rfl rfl (by decide) (by decide) (by decide) (Nat.le_of_ble_eq_true rfl) h (fun _ _ h => ct_X6_at h) (fun v21 M20 h => ?_)
        refine jv_vV0 (As := [.int v21]) C lk_X9_295 rfl dX9_changeBag_80 rfl rfl (by decide) (by decide) (by decide) (Nat.le_of_ble_eq_true rfl) h (fun _ _ h => ct_X6_add h) (fun _ M22 h => ?_)
        refine jv_aload_n C dX9_changeBag_83 rfl 1 rfl ?_
        refine jv_getR C fa_X9_33 dX9_changeBag_84 h (fun b23 h => ?_)
        refine jv_getR C fa_X9_217 dX9_changeBag_87 h (fun b24 h => ?_)
        refine jv_iload_n C dX9_changeBag_90 rfl 0 rfl ?_
        refine jv_vV0 (As := [.int v8]) C lk_X9_295 rfl dX9_changeBag_91 rfl rfl (by decide) (by decide) (by decide) (Nat.le_of_ble_eq_true rfl) h (fun _ _ h => ct_X6_add h) (fun _ M25 h => ?_)
        refine jv_aload_n C dX9_changeBag_94 rfl 1 rfl ?_
        refine jv_getR C fa_X9_33 dX9_changeBag_95 h (fun b26 h => ?_)
        refine jv_getR C fa_X9_223 dX9_changeBag_98 h (fun b27 h => ?_)
        refine jv_iconst (v := (-1)) C dX9_changeBag_101 (by decide) ?_
        refine jv_vV0 (As := [.int (-1)]) C lk_X9_295 rfl dX9_changeBag_102 rfl rfl (by decide) (by decide) (by decide) (Nat.le_of_ble_eq_true rfl) h (fun _ _ h => ct_X6_add h) (fun _ M28 h => ?_)
        refine jv_aload_n C dX9_changeBag_105 rfl 1 rfl ?_
        refine jv_getR C fa_X9_33 dX9_changeBag_106 h (fun b29 h => ?_)
        refine jv_getR C fa_X9_199 dX9_changeBag_109 h (fun b30 h => ?_)
        refine jv_iload_n C dX9_changeBag_112 rfl 2 rfl ?_
        refine jv_iload_n C dX9_changeBag_113 rfl 0 rfl ?_
        refine jv_ineg C dX9_changeBag_114 ?_
        refine jv_vV0 (As := [.int x1, .int (0 - v8)]) C lk_X9_321 rfl dX9_changeBag_115 rfl rfl (by decide) (by decide) (by decide) (Nat.le_of_ble_eq_true rfl) h (fun _ _ h => ct_X6_increase h) (fun _ M31 h => ?_)
        refine jv_aload_n C dX9_changeBag_118 rfl 1 rfl ?_
        refine jv_getR C fa_X9_33 dX9_changeBag_119 h (fun b32 h => ?_)
        refine jv_getR C fa_X9_214 dX9_changeBag_122 h (fun b33 h => ?_)
        refine jv_getI C fa_X9_124 dX9_changeBag_125 h (fun v34 h => ?_)
        refine jv_iconst (v := 1) C dX9_changeBag_128 (by decide) ?_
        refine jv_isub C dX9_changeBag_129 ?_
        exact jv_iret C hr dX9_changeBag_130 h
      · refine jv_bipush (v := (-3)) C dX9_changeBag_48 (by decide) ?_
        exact jv_iret C hr dX9_changeBag_50 h
    · refine jv_bipush (v := (-2)) C dX9_changeBag_32 (by decide) ?_
      exact jv_iret C hr dX9_changeBag_34 h
  · refine jv_iconst (v := (-1)) C dX9_changeBag_14 (by decide) ?_
    exact jv_iret C hr dX9_changeBag_15 h
theorem dX9_classify_0 : decode cX9_classify 0 = .ok (.iload_n 1, 1) := by decide +kernel
theorem dX9_classify_1 : decode cX9_classify 1 = .ok (.iload_n 2, 1) := by decide +kernel
theorem dX9_classify_2 : decode cX9_classify 2 = .ok (.invokestatic 150, 3) := by decide +kernel
theorem dX9_classify_5 : decode cX9_classify 5 = .ok (.ifCond .ne 13, 3) := by decide +kernel
theorem dX9_classify_8 : decode cX9_classify 8 = .ok (.new 154, 3) := by decide +kernel
theorem dX9_classify_11 : decode cX9_classify 11 = .ok (.dup, 1) := by decide +kernel
theorem dX9_classify_12 : decode cX9_classify 12 = .ok (.ldc 156, 2) := by decide +kernel
theorem dX9_classify_14 : decode cX9_classify 14 = .ok (.invokespecial 158, 3) := by decide +kernel
theorem dX9_classify_17 : decode cX9_classify 17 = .ok (.athrow, 1) := by decide +kernel
theorem dX9_classify_18 : decode cX9_classify 18 = .ok (.aload_n 0, 1) := by decide +kernel
theorem dX9_classify_19 : decode cX9_classify 19 = .ok (.iload_n 1, 1) := by decide +kernel
theorem dX9_classify_20 : decode cX9_classify 20 = .ok (.iload_n 2, 1) := by decide +kernel
theorem dX9_classify_21 : decode cX9_classify 21 = .ok (.aload_n 0, 1) := by decide +kernel
theorem dX9_classify_22 : decode cX9_classify 22 = .ok (.getfield 33, 3) := by decide +kernel
theorem dX9_classify_25 : decode cX9_classify 25 = .ok (.getfield 170, 3) := by decide +kernel
theorem dX9_classify_28 : decode cX9_classify 28 = .ok (.invokevirtual 173, 3) := by decide +kernel
theorem dX9_classify_31 : decode cX9_classify 31 = .ok (.ireturn, 1) := by decide +kernel
def fn_X9_classify (N : Nat) (M : Mem) (a0 : Nat) (x1 : Int32) (x2 : Int32) : Option (Int32 × Mem) :=
  mm_b2 (fn_X9_isMeasurement N M x1 x2) fun v2 M1 =>
  if v2 = 0 then
    none
  else
    (mm_gR M1 a0 9 5).bind fun b3 =>
    (mm_gI M1 b3 7 2).bind fun v4 =>
    (mm_ck M1 a0 9).bind fun _ => mm_b2 (fn_X9_verdict N M1 a0 x1 x2 v4) fun v6 M5 =>
    some (v6, M5)
set_option maxRecDepth 100000 in
set_option maxHeartbeats 4000000 in
theorem ct_X9_classify {l : Launch} {ω : Wd} {k N : Nat} {M : Mem} {a0 : Nat} {x1 : Int32} {x2 : Int32} {r : Int32} {M' : Mem} (h : fn_X9_classify N M a0 x1 x2 = some (r, M')) : CM l ω k yX9_classify cX9_classify 3 (some .int) 4 0 0 [.ref a0, .int x1, .int x2] M (some (.int r)) M' := by
  refine CM.of (by decide) (Nat.le_of_ble_eq_true rfl) fun Γ hl C hr hi => ?_
  subst hl
  unfold fn_X9_classify at h
  refine jv_iload_n C dX9_classify_0 rfl 1 rfl ?_
  refine jv_iload_n C dX9_classify_1 rfl 2 rfl ?_
  refine jv_sI0 (As := [.int x1, .int x2]) C lk_X9_150 dX9_classify_2 rfl rfl (by decide) (by decide) (by decide) (Nat.le_of_ble_eq_true rfl) h (fun _ _ h => ct_X9_isMeasurement h) (fun v2 M1 h => ?_)
  refine jv_if_ne (tgt := 18) C dX9_classify_5 (by decide) h (fun h => ?_) (fun h => ?_)
  · refine jv_aload_n C dX9_classify_18 rfl 0 rfl ?_
    refine jv_iload_n C dX9_classify_19 rfl 1 rfl ?_
    refine jv_iload_n C dX9_classify_20 rfl 2 rfl ?_
    refine jv_aload_n C dX9_classify_21 rfl 0 rfl ?_
    refine jv_getR C fa_X9_33 dX9_classify_22 h (fun b3 h => ?_)
    refine jv_getI C fa_X9_170 dX9_classify_25 h (fun v4 h => ?_)
    refine jv_vI0 (As := [.int x1, .int x2, .int v4]) C lk_X9_173 rfl dX9_classify_28 rfl rfl (by decide) (by decide) (by decide) (Nat.le_of_ble_eq_true rfl) h (fun _ _ h => ct_X9_verdict h) (fun v6 M5 h => ?_)
    exact jv_iret C hr dX9_classify_31 h
  · exact jv_no h
theorem dX9_rejectIndex_0 : decode cX9_rejectIndex 0 = .ok (.iload_n 0, 1) := by decide +kernel
theorem dX9_rejectIndex_1 : decode cX9_rejectIndex 1 = .ok (.bipush 21, 2) := by decide +kernel
theorem dX9_rejectIndex_3 : decode cX9_rejectIndex 3 = .ok (.if_icmp .lt 16, 3) := by decide +kernel
theorem dX9_rejectIndex_6 : decode cX9_rejectIndex 6 = .ok (.iload_n 0, 1) := by decide +kernel
theorem dX9_rejectIndex_7 : decode cX9_rejectIndex 7 = .ok (.bipush 24, 2) := by decide +kernel
theorem dX9_rejectIndex_9 : decode cX9_rejectIndex 9 = .ok (.if_icmp .gt 10, 3) := by decide +kernel
theorem dX9_rejectIndex_12 : decode cX9_rejectIndex 12 = .ok (.iload_n 0, 1) := by decide +kernel
theorem dX9_rejectIndex_13 : decode cX9_rejectIndex 13 = .ok (.bipush 21, 2) := by decide +kernel
theorem dX9_rejectIndex_15 : decode cX9_rejectIndex 15 = .ok (.isub, 1) := by decide +kernel
theorem dX9_rejectIndex_16 : decode cX9_rejectIndex 16 = .ok (.goto 4, 3) := by decide +kernel
theorem dX9_rejectIndex_19 : decode cX9_rejectIndex 19 = .ok (.iconst (-1), 1) := by decide +kernel
theorem dX9_rejectIndex_20 : decode cX9_rejectIndex 20 = .ok (.ireturn, 1) := by decide +kernel
def fn_X9_rejectIndex (N : Nat) (M : Mem) (x0 : Int32) : Option (Int32 × Mem) :=
  if x0 < 21 then
    some ((-1), M)
  else
    if 24 < x0 then
      some ((-1), M)
    else
      some ((x0 - 21), M)
set_option maxRecDepth 100000 in
set_option maxHeartbeats 4000000 in
theorem ct_X9_rejectIndex {l : Launch} {ω : Wd} {k N : Nat} {M : Mem} {x0 : Int32} {r : Int32} {M' : Mem} (h : fn_X9_rejectIndex N M x0 = some (r, M')) : CM l ω k yX9_rejectIndex cX9_rejectIndex 1 (some .int) 0 0 0 [.int x0] M (some (.int r)) M' := by
  refine CM.of (by decide) (Nat.le_of_ble_eq_true rfl) fun Γ hl C hr hi => ?_
  subst hl
  unfold fn_X9_rejectIndex at h
  refine jv_iload_n C dX9_rejectIndex_0 rfl 0 rfl ?_
  refine jv_bipush (v := 21) C dX9_rejectIndex_1 (by decide) ?_
  refine jv_icmp_lt (tgt := 19) C dX9_rejectIndex_3 (by decide) h (fun h => ?_) (fun h => ?_)
  · refine jv_iconst (v := (-1)) C dX9_rejectIndex_19 (by decide) ?_
    exact jv_iret C hr dX9_rejectIndex_20 h
  · refine jv_iload_n C dX9_rejectIndex_6 rfl 0 rfl ?_
    refine jv_bipush (v := 24) C dX9_rejectIndex_7 (by decide) ?_
    refine jv_icmp_gt (tgt := 19) C dX9_rejectIndex_9 (by decide) h (fun h => ?_) (fun h => ?_)
    · refine jv_iconst (v := (-1)) C dX9_rejectIndex_19 (by decide) ?_
      exact jv_iret C hr dX9_rejectIndex_20 h
    · refine jv_iload_n C dX9_rejectIndex_12 rfl 0 rfl ?_
      refine jv_bipush (v := 21) C dX9_rejectIndex_13 (by decide) ?_
      refine jv_isub C dX9_rejectIndex_15 ?_
      refine jv_goto (tgt := 20) C dX9_rejectIndex_16 (by decide) ?_
      exact jv_iret C hr dX9_rejectIndex_20 h
theorem dX9_clearJam_0 : decode cX9_clearJam 0 = .ok (.aload_n 0, 1) := by decide +kernel
theorem dX9_clearJam_1 : decode cX9_clearJam 1 = .ok (.getfield 33, 3) := by decide +kernel
theorem dX9_clearJam_4 : decode cX9_clearJam 4 = .ok (.getfield 192, 3) := by decide +kernel
theorem dX9_clearJam_7 : decode cX9_clearJam 7 = .ok (.ifCond .ne 5, 3) := by decide +kernel
theorem dX9_clearJam_10 : decode cX9_clearJam 10 = .ok (.iconst 0, 1) := by decide +kernel
theorem dX9_clearJam_11 : decode cX9_clearJam 11 = .ok (.ireturn, 1) := by decide +kernel
theorem dX9_clearJam_12 : decode cX9_clearJam 12 = .ok (.aload_n 0, 1) := by decide +kernel
theorem dX9_clearJam_13 : decode cX9_clearJam 13 = .ok (.getfield 40, 3) := by decide +kernel
theorem dX9_clearJam_16 : decode cX9_clearJam 16 = .ok (.aload_n 0, 1) := by decide +kernel
theorem dX9_clearJam_17 : decode cX9_clearJam 17 = .ok (.getfield 33, 3) := by decide +kernel
theorem dX9_clearJam_20 : decode cX9_clearJam 20 = .ok (.invokevirtual 279, 3) := by decide +kernel
theorem dX9_clearJam_23 : decode cX9_clearJam 23 = .ok (.aload_n 0, 1) := by decide +kernel
theorem dX9_clearJam_24 : decode cX9_clearJam 24 = .ok (.getfield 33, 3) := by decide +kernel
theorem dX9_clearJam_27 : decode cX9_clearJam 27 = .ok (.iconst 0, 1) := by decide +kernel
theorem dX9_clearJam_28 : decode cX9_clearJam 28 = .ok (.putfield 192, 3) := by decide +kernel
theorem dX9_clearJam_31 : decode cX9_clearJam 31 = .ok (.aload_n 0, 1) := by decide +kernel
theorem dX9_clearJam_32 : decode cX9_clearJam 32 = .ok (.getfield 33, 3) := by decide +kernel
theorem dX9_clearJam_35 : decode cX9_clearJam 35 = .ok (.getfield 202, 3) := by decide +kernel
theorem dX9_clearJam_38 : decode cX9_clearJam 38 = .ok (.bipush 24, 2) := by decide +kernel
theorem dX9_clearJam_40 : decode cX9_clearJam 40 = .ok (.invokestatic 205, 3) := by decide +kernel
theorem dX9_clearJam_43 : decode cX9_clearJam 43 = .ok (.iconst 1, 1) := by decide +kernel
theorem dX9_clearJam_44 : decode cX9_clearJam 44 = .ok (.invokevirtual 321, 3) := by decide +kernel
theorem dX9_clearJam_47 : decode cX9_clearJam 47 = .ok (.iconst 1, 1) := by decide +kernel
theorem dX9_clearJam_48 : decode cX9_clearJam 48 = .ok (.ireturn, 1) := by decide +kernel
def fn_X9_clearJam (N : Nat) (M : Mem) (a0 : Nat) : Option (Int32 × Mem) :=
  (mm_gR M a0 9 5).bind fun b1 =>
  (mm_gI M b1 7 3).bind fun v2 =>
  if v2 = 0 then
    some (0, M)
  else
    (mm_gR M a0 9 6).bind fun b3 =>
    (mm_gR M a0 9 5).bind fun b4 =>
    (mm_ck M b3 1).bind fun _ => mm_b2 (fn_X1_push N M b3 b4) fun _ M5 =>
    (mm_gR M5 a0 9 5).bind fun b6 =>
    (mm_pZ M5 b6 7 3 0).bind fun M7 =>
    (mm_gR M7 a0 9 5).bind fun b8 =>
    (mm_gR M7 b8 7 8).bind fun b9 =>
    mm_b2 (fn_X9_rejectIndex N M7 24) fun v11 M10 =>
    (mm_ck M10 b9 6).bind fun _ => mm_b2 (fn_X6_increase N M10 b9 v11 1) fun _ M12 =>
    some (1, M12)
set_option maxRecDepth 100000 in
set_option maxHeartbeats 4000000 in
theorem ct_X9_clearJam {l : Launch} {ω : Wd} {k N : Nat} {M : Mem} {a0 : Nat} {r : Int32} {M' : Mem} (h : fn_X9_clearJam N M a0 = some (r, M')) : CM l ω k yX9_clearJam cX9_clearJam 1 (some .boolean) 4 0 0 [.ref a0] M (some (.int r)) M' := by
  refine CM.of (by decide) (Nat.le_of_ble_eq_true rfl) fun Γ hl C hr hi => ?_
  subst hl
  unfold fn_X9_clearJam at h
  refine jv_aload_n C dX9_clearJam_0 rfl 0 rfl ?_
  refine jv_getR C fa_X9_33 dX9_clearJam_1 h (fun b1 h => ?_)
  refine jv_getI C fa_X9_192 dX9_clearJam_4 h (fun v2 h => ?_)
  refine jv_if_ne (tgt := 12) C dX9_clearJam_7 (by decide) h (fun h => ?_) (fun h => ?_)
  · refine jv_aload_n C dX9_clearJam_12 rfl 0 rfl ?_
    refine jv_getR C fa_X9_40 dX9_clearJam_13 h (fun b3 h => ?_)
    refine jv_aload_n C dX9_clearJam_16 rfl 0 rfl ?_
    refine jv_getR C fa_X9_33 dX9_clearJam_17 h (fun b4 h => ?_)
    refine jv_vV0 (As := [.ref b4]) C lk_X9_279 rfl dX9_clearJam_20 rfl rfl (by decide) (by decide) (by decide) (Nat.le_of_ble_eq_true rfl) h (fun _ _ h => ct_X1_push h) (fun _ M5 h => ?_)
    refine jv_aload_n C dX9_clearJam_23 rfl 0 rfl ?_
    refine jv_getR C fa_X9_33 dX9_clearJam_24 h (fun b6 h => ?_)
    refine jv_iconst (v := 0) C dX9_clearJam_27 (by decide) ?_
    refine jv_putZ C fp_X9_192 dX9_clearJam_28 h (fun M7 h => ?_)
    refine jv_aload_n C dX9_clearJam_31 rfl 0 rfl ?_
    refine jv_getR C fa_X9_33 dX9_clearJam_32 h (fun b8 h => ?_)
    refine jv_getR C fa_X9_202 dX9_clearJam_35 h (fun b9 h => ?_)
    refine jv_bipush (v := 24) C dX9_clearJam_38 (by decide) ?_
    refine jv_sI0 (As := [.int 24]) C lk_X9_205 dX9_clearJam_40 rfl rfl (by decide) (by decide) (by decide) (Nat.le_of_ble_eq_true rfl) h (fun _ _ h => ct_X9_rejectIndex h) (fun v11 M10 h => ?_)
    refine jv_iconst (v := 1) C dX9_clearJam_43 (by decide) ?_
    refine jv_vV0 (As := [.int v11, .int 1]) C lk_X9_321 rfl dX9_clearJam_44 rfl rfl (by decide) (by decide) (by decide) (Nat.le_of_ble_eq_true rfl) h (fun _ _ h => ct_X6_increase h) (fun _ M12 h => ?_)
    refine jv_iconst (v := 1) C dX9_clearJam_47 (by decide) ?_
    exact jv_zretc C hr (Or.inr rfl) dX9_clearJam_48 h
  · refine jv_iconst (v := 0) C dX9_clearJam_10 (by decide) ?_
    exact jv_zretc C hr (Or.inl rfl) dX9_clearJam_11 h
theorem dX9_diameterOffset_0 : decode cX9_diameterOffset 0 = .ok (.aload_n 0, 1) := by decide +kernel
theorem dX9_diameterOffset_1 : decode cX9_diameterOffset 1 = .ok (.getfield 33, 3) := by decide +kernel
theorem dX9_diameterOffset_4 : decode cX9_diameterOffset 4 = .ok (.getfield 159, 3) := by decide +kernel
theorem dX9_diameterOffset_7 : decode cX9_diameterOffset 7 = .ok (.ireturn, 1) := by decide +kernel
def fn_X9_diameterOffset (N : Nat) (M : Mem) (a0 : Nat) : Option (Int32 × Mem) :=
  (mm_gR M a0 9 5).bind fun b1 =>
  (mm_gI M b1 7 0).bind fun v2 =>
  some (v2, M)
set_option maxRecDepth 100000 in
set_option maxHeartbeats 4000000 in
theorem ct_X9_diameterOffset {l : Launch} {ω : Wd} {k N : Nat} {M : Mem} {a0 : Nat} {r : Int32} {M' : Mem} (h : fn_X9_diameterOffset N M a0 = some (r, M')) : CM l ω k yX9_diameterOffset cX9_diameterOffset 1 (some .int) 0 0 0 [.ref a0] M (some (.int r)) M' := by
  refine CM.of (by decide) (Nat.le_of_ble_eq_true rfl) fun Γ hl C hr hi => ?_
  subst hl
  unfold fn_X9_diameterOffset at h
  refine jv_aload_n C dX9_diameterOffset_0 rfl 0 rfl ?_
  refine jv_getR C fa_X9_33 dX9_diameterOffset_1 h (fun b1 h => ?_)
  refine jv_getI C fa_X9_159 dX9_diameterOffset_4 h (fun v2 h => ?_)
  exact jv_iret C hr dX9_diameterOffset_7 h
theorem dX9_discrepancyOf_0 : decode cX9_discrepancyOf 0 = .ok (.aload_n 0, 1) := by decide +kernel
theorem dX9_discrepancyOf_1 : decode cX9_discrepancyOf 1 = .ok (.getfield 33, 3) := by decide +kernel
theorem dX9_discrepancyOf_4 : decode cX9_discrepancyOf 4 = .ok (.getfield 223, 3) := by decide +kernel
theorem dX9_discrepancyOf_7 : decode cX9_discrepancyOf 7 = .ok (.iload_n 1, 1) := by decide +kernel
theorem dX9_discrepancyOf_8 : decode cX9_discrepancyOf 8 = .ok (.invokevirtual 132, 3) := by decide +kernel
theorem dX9_discrepancyOf_11 : decode cX9_discrepancyOf 11 = .ok (.istore_n 2, 1) := by decide +kernel
theorem dX9_discrepancyOf_12 : decode cX9_discrepancyOf 12 = .ok (.iload_n 2, 1) := by decide +kernel
theorem dX9_discrepancyOf_13 : decode cX9_discrepancyOf 13 = .ok (.iconst (-1), 1) := by decide +kernel
theorem dX9_discrepancyOf_14 : decode cX9_discrepancyOf 14 = .ok (.if_icmp .ne 5, 3) := by decide +kernel
theorem dX9_discrepancyOf_17 : decode cX9_discrepancyOf 17 = .ok (.iconst 0, 1) := by decide +kernel
theorem dX9_discrepancyOf_18 : decode cX9_discrepancyOf 18 = .ok (.ireturn, 1) := by decide +kernel
theorem dX9_discrepancyOf_19 : decode cX9_discrepancyOf 19 = .ok (.iload_n 2, 1) := by decide +kernel
theorem dX9_discrepancyOf_20 : decode cX9_discrepancyOf 20 = .ok (.aload_n 0, 1) := by decide +kernel
theorem dX9_discrepancyOf_21 : decode cX9_discrepancyOf 21 = .ok (.getfield 33, 3) := by decide +kernel
theorem dX9_discrepancyOf_24 : decode cX9_discrepancyOf 24 = .ok (.getfield 217, 3) := by decide +kernel
theorem dX9_discrepancyOf_27 : decode cX9_discrepancyOf 27 = .ok (.iload_n 1, 1) := by decide +kernel
theorem dX9_discrepancyOf_28 : decode cX9_discrepancyOf 28 = .ok (.invokevirtual 132, 3) := by decide +kernel
theorem dX9_discrepancyOf_31 : decode cX9_discrepancyOf 31 = .ok (.isub, 1) := by decide +kernel
theorem dX9_discrepancyOf_32 : decode cX9_discrepancyOf 32 = .ok (.aload_n 0, 1) := by decide +kernel
theorem dX9_discrepancyOf_33 : decode cX9_discrepancyOf 33 = .ok (.getfield 23, 3) := by decide +kernel
theorem dX9_discrepancyOf_36 : decode cX9_discrepancyOf 36 = .ok (.getfield 102, 3) := by decide +kernel
theorem dX9_discrepancyOf_39 : decode cX9_discrepancyOf 39 = .ok (.getfield 129, 3) := by decide +kernel
theorem dX9_discrepancyOf_42 : decode cX9_discrepancyOf 42 = .ok (.aload_n 0, 1) := by decide +kernel
theorem dX9_discrepancyOf_43 : decode cX9_discrepancyOf 43 = .ok (.getfield 33, 3) := by decide +kernel
theorem dX9_discrepancyOf_46 : decode cX9_discrepancyOf 46 = .ok (.getfield 214, 3) := by decide +kernel
theorem dX9_discrepancyOf_49 : decode cX9_discrepancyOf 49 = .ok (.iload_n 1, 1) := by decide +kernel
theorem dX9_discrepancyOf_50 : decode cX9_discrepancyOf 50 = .ok (.invokevirtual 132, 3) := by decide +kernel
theorem dX9_discrepancyOf_53 : decode cX9_discrepancyOf 53 = .ok (.invokevirtual 132, 3) := by decide +kernel
theorem dX9_discrepancyOf_56 : decode cX9_discrepancyOf 56 = .ok (.imul, 1) := by decide +kernel
theorem dX9_discrepancyOf_57 : decode cX9_discrepancyOf 57 = .ok (.ireturn, 1) := by decide +kernel
def fn_X9_discrepancyOf (N : Nat) (M : Mem) (a0 : Nat) (x1 : Int32) : Option (Int32 × Mem) :=
  (mm_gR M a0 9 5).bind fun b1 =>
  (mm_gR M b1 7 12).bind fun b2 =>
  (mm_ck M b2 6).bind fun _ => mm_b2 (fn_X6_at N M b2 x1) fun v4 M3 =>
  if v4 = (-1) then
    some (0, M3)
  else
    (mm_gR M3 a0 9 5).bind fun b5 =>
    (mm_gR M3 b5 7 11).bind fun b6 =>
    (mm_ck M3 b6 6).bind fun _ => mm_b2 (fn_X6_at N M3 b6 x1) fun v8 M7 =>
    (mm_gR M7 a0 9 3).bind fun b9 =>
    (mm_gR M7 b9 0 0).bind fun b10 =>
    (mm_gR M7 b10 3 0).bind fun b11 =>
    (mm_gR M7 a0 9 5).bind fun b12 =>
    (mm_gR M7 b12 7 10).bind fun b13 =>
    (mm_ck M7 b13 6).bind fun _ => mm_b2 (fn_X6_at N M7 b13 x1) fun v15 M14 =>
    (mm_ck M14 b11 6).bind fun _ => mm_b2 (fn_X6_at N M14 b11 v15) fun v17 M16 =>
    some (((v4 - v8) * v17), M16)
set_option maxRecDepth 100000 in
set_option maxHeartbeats 4000000 in
theorem ct_X9_discrepancyOf {l : Launch} {ω : Wd} {k N : Nat} {M : Mem} {a0 : Nat} {x1 : Int32} {r : Int32} {M' : Mem} (h : fn_X9_discrepancyOf N M a0 x1 = some (r, M')) : CM l ω k yX9_discrepancyOf cX9_discrepancyOf 3 (some .int) 1 0 0 [.ref a0, .int x1] M (some (.int r)) M' := by
  refine CM.of (by decide) (Nat.le_of_ble_eq_true rfl) fun Γ hl C hr hi => ?_
  subst hl
  unfold fn_X9_discrepancyOf at h
  refine jv_aload_n C dX9_discrepancyOf_0 rfl 0 rfl ?_
  refine jv_getR C fa_X9_33 dX9_discrepancyOf_1 h (fun b1 h => ?_)
  refine jv_getR C fa_X9_223 dX9_discrepancyOf_4 h (fun b2 h => ?_)
  refine jv_iload_n C dX9_discrepancyOf_7 rfl 1 rfl ?_
  refine jv_vI0 (As := [.int x1]) C lk_X9_132 rfl dX9_discrepancyOf_8 rfl rfl (by decide) (by decide) (by decide) (Nat.le_of_ble_eq_true rfl) h (fun _ _ h => ct_X6_at h) (fun v4 M3 h => ?_)
  refine jv_istore_n (lv' := [(2, .int v4), (0, .ref a0), (1, .int x1)]) C dX9_discrepancyOf_11 rfl (by decide) rfl ?_
  refine jv_iload_n C dX9_discrepancyOf_12 rfl 0 rfl ?_
  refine jv_iconst (v := (-1)) C dX9_discrepancyOf_13 (by decide) ?_
  refine jv_icmp_ne (tgt := 19) C dX9_discrepancyOf_14 (by decide) h (fun h => ?_) (fun h => ?_)
  · refine jv_iload_n C dX9_discrepancyOf_19 rfl 0 rfl ?_
    refine jv_aload_n C dX9_discrepancyOf_20 rfl 1 rfl ?_
    refine jv_getR C fa_X9_33 dX9_discrepancyOf_21 h (fun b5 h => ?_)
    refine jv_getR C fa_X9_217 dX9_discrepancyOf_24 h (fun b6 h => ?_)
    refine jv_iload_n C dX9_discrepancyOf_27 rfl 2 rfl ?_
    refine jv_vI0 (As := [.int x1]) C lk_X9_132 rfl dX9_discrepancyOf_28 rfl rfl (by decide) (by decide) (by decide) (Nat.le_of_ble_eq_true rfl) h (fun _ _ h => ct_X6_at h) (fun v8 M7 h => ?_)
    refine jv_isub C dX9_discrepancyOf_31 ?_
    refine jv_aload_n C dX9_discrepancyOf_32 rfl 1 rfl ?_
    refine jv_getR C fa_X9_23 dX9_discrepancyOf_33 h (fun b9 h => ?_)
    refine jv_getR C fa_X9_102 dX9_discrepancyOf_36 h (fun b10 h => ?_)
    refine jv_getR C fa_X9_129 dX9_discrepancyOf_39 h (fun b11 h => ?_)
    refine jv_aload_n C dX9_discrepancyOf_42 rfl 1 rfl ?_
    refine jv_getR C fa_X9_33 dX9_discrepancyOf_43 h (fun b12 h => ?_)
    refine jv_getR C fa_X9_214 dX9_discrepancyOf_46 h (fun b13 h => ?_)
    refine jv_iload_n C dX9_discrepancyOf_49 rfl 2 rfl ?_
    refine jv_vI0 (As := [.int x1]) C lk_X9_132 rfl dX9_discrepancyOf_50 rfl rfl (by decide) (by decide) (by decide) (Nat.le_of_ble_eq_true rfl) h (fun _ _ h => ct_X6_at h) (fun v15 M14 h => ?_)
    refine jv_vI0 (As := [.int v15]) C lk_X9_132 rfl dX9_discrepancyOf_53 rfl rfl (by decide) (by decide) (by decide) (Nat.le_of_ble_eq_true rfl) h (fun _ _ h => ct_X6_at h) (fun v17 M16 h => ?_)
    refine jv_imul C dX9_discrepancyOf_56 ?_
    exact jv_iret C hr dX9_discrepancyOf_57 h
  · refine jv_iconst (v := 0) C dX9_discrepancyOf_17 (by decide) ?_
    exact jv_iret C hr dX9_discrepancyOf_18 h
theorem dX9_discrepancy_0 : decode cX9_discrepancy 0 = .ok (.iconst 0, 1) := by decide +kernel
theorem dX9_discrepancy_1 : decode cX9_discrepancy 1 = .ok (.istore_n 1, 1) := by decide +kernel
theorem dX9_discrepancy_2 : decode cX9_discrepancy 2 = .ok (.iconst 0, 1) := by decide +kernel
theorem dX9_discrepancy_3 : decode cX9_discrepancy 3 = .ok (.istore_n 2, 1) := by decide +kernel
theorem dX9_discrepancy_4 : decode cX9_discrepancy 4 = .ok (.iload_n 2, 1) := by decide +kernel
theorem dX9_discrepancy_5 : decode cX9_discrepancy 5 = .ok (.aload_n 0, 1) := by decide +kernel
theorem dX9_discrepancy_6 : decode cX9_discrepancy 6 = .ok (.getfield 33, 3) := by decide +kernel
theorem dX9_discrepancy_9 : decode cX9_discrepancy 9 = .ok (.getfield 214, 3) := by decide +kernel
theorem dX9_discrepancy_12 : decode cX9_discrepancy 12 = .ok (.getfield 124, 3) := by decide +kernel
theorem dX9_discrepancy_15 : decode cX9_discrepancy 15 = .ok (.if_icmp .ge 17, 3) := by decide +kernel
theorem dX9_discrepancy_18 : decode cX9_discrepancy 18 = .ok (.iload_n 1, 1) := by decide +kernel
theorem dX9_discrepancy_19 : decode cX9_discrepancy 19 = .ok (.aload_n 0, 1) := by decide +kernel
theorem dX9_discrepancy_20 : decode cX9_discrepancy 20 = .ok (.iload_n 2, 1) := by decide +kernel
theorem dX9_discrepancy_21 : decode cX9_discrepancy 21 = .ok (.invokevirtual 220, 3) := by decide +kernel
theorem dX9_discrepancy_24 : decode cX9_discrepancy 24 = .ok (.iadd, 1) := by decide +kernel
theorem dX9_discrepancy_25 : decode cX9_discrepancy 25 = .ok (.istore_n 1, 1) := by decide +kernel
theorem dX9_discrepancy_26 : decode cX9_discrepancy 26 = .ok (.iinc 2 1, 3) := by decide +kernel
theorem dX9_discrepancy_29 : decode cX9_discrepancy 29 = .ok (.goto (-25), 3) := by decide +kernel
theorem dX9_discrepancy_32 : decode cX9_discrepancy 32 = .ok (.iload_n 1, 1) := by decide +kernel
theorem dX9_discrepancy_33 : decode cX9_discrepancy 33 = .ok (.ireturn, 1) := by decide +kernel
def fn_X9_discrepancy_4 (N : Nat) : Nat → Mem → Nat → Int32 → Int32 → Option (Int32 × Mem)
  | 0, _, _, _, _ => none
  | n + 1, M, a0, x1, x2 =>
    (mm_gR M a0 9 5).bind fun b1 =>
    (mm_gR M b1 7 10).bind fun b2 =>
    (mm_gI M b2 6 1).bind fun v3 =>
    if v3 ≤ x2 then
      some (x1, M)
    else
      (mm_ck M a0 9).bind fun _ => mm_b2 (fn_X9_discrepancyOf N M a0 x2) fun v5 M4 =>
      fn_X9_discrepancy_4 N n M4 a0 ((x1 + v5)) ((x2 + 1))
set_option maxRecDepth 100000 in
set_option maxHeartbeats 4000000 in
theorem bk_X9_discrepancy_4 {Γ : Gm} {ω : Wd} {k N : Nat} {r : Int32} {M' : Mem} (C : Cx Γ cX9_discrepancy 3 RX9 ω 2 0 0) (hr : Γ.meth.sig.returnType = (some .int)) : ∀ (n : Nat) (M : Mem) (a0 : Nat) (x1 : Int32) (x2 : Int32), fn_X9_discrepancy_4 N n M a0 x1 x2 = some (r, M') → JJ Γ (QF Γ ω k 0 0 (some (.int r)) M') 3 ω k M 0 0 4 [(0, .ref a0), (1, .int x1), (2, .int x2)] [] := by
  intro n
  induction n with
  | zero => intro M a0 x1 x2 h; exact jv_no h
  | succ n ih =>
    intro M a0 x1 x2 h
    rw [fn_X9_discrepancy_4.eq_2] at h
    refine jv_iload_n C dX9_discrepancy_4 rfl 2 rfl ?_
    refine jv_aload_n C dX9_discrepancy_5 rfl 0 rfl ?_
    refine jv_getR C fa_X9_33 dX9_discrepancy_6 h (fun b1 h => ?_)
    refine jv_getR C fa_X9_214 dX9_discrepancy_9 h (fun b2 h => ?_)
    refine jv_getI C fa_X9_124 dX9_discrepancy_12 h (fun v3 h => ?_)
    refine jv_icmp_ge (tgt := 32) C dX9_discrepancy_15 (by decide) h (fun h => ?_) (fun h => ?_)
    · refine jv_iload_n C dX9_discrepancy_32 rfl 1 rfl ?_
      exact jv_iret C hr dX9_discrepancy_33 h
    · refine jv_iload_n C dX9_discrepancy_18 rfl 1 rfl ?_
      refine jv_aload_n C dX9_discrepancy_19 rfl 0 rfl ?_
      refine jv_iload_n C dX9_discrepancy_20 rfl 2 rfl ?_
      refine jv_vI0 (As := [.int x2]) C lk_X9_220 rfl dX9_discrepancy_21 rfl rfl (by decide) (by decide) (by decide) (Nat.le_of_ble_eq_true rfl) h (fun _ _ h => ct_X9_discrepancyOf h) (fun v5 M4 h => ?_)
      refine jv_iadd C dX9_discrepancy_24 ?_
      refine jv_istore_n (lv' := [(1, .int (x1 + v5)), (0, .ref a0), (2, .int x2)]) C dX9_discrepancy_25 rfl (by decide) rfl ?_
      refine jv_iinc (v := 1) (lv' := [(2, .int (x2 + 1)), (1, .int (x1 + v5)), (0, .ref a0)]) C dX9_discrepancy_26 2 rfl (by decide) (by decide) rfl ?_
      refine jv_goto (tgt := 4) C dX9_discrepancy_29 (by decide) ?_
      refine jv_sub [2, 1, 0] rfl ?_
      exact ih _ _ _ _ h
def fn_X9_discrepancy (N : Nat) (M : Mem) (a0 : Nat) : Option (Int32 × Mem) :=
  fn_X9_discrepancy_4 N N M a0 0 0
set_option maxRecDepth 100000 in
set_option maxHeartbeats 4000000 in
theorem ct_X9_discrepancy {l : Launch} {ω : Wd} {k N : Nat} {M : Mem} {a0 : Nat} {r : Int32} {M' : Mem} (h : fn_X9_discrepancy N M a0 = some (r, M')) : CM l ω k yX9_discrepancy cX9_discrepancy 3 (some .int) 2 0 0 [.ref a0] M (some (.int r)) M' := by
  refine CM.of (by decide) (Nat.le_of_ble_eq_true rfl) fun Γ hl C hr hi => ?_
  subst hl
  unfold fn_X9_discrepancy at h
  refine jv_iconst (v := 0) C dX9_discrepancy_0 (by decide) ?_
  refine jv_istore_n (lv' := [(1, .int 0), (0, .ref a0)]) C dX9_discrepancy_1 rfl (by decide) rfl ?_
  refine jv_iconst (v := 0) C dX9_discrepancy_2 (by decide) ?_
  refine jv_istore_n (lv' := [(2, .int 0), (1, .int 0), (0, .ref a0)]) C dX9_discrepancy_3 rfl (by decide) rfl ?_
  refine jv_sub [2, 1, 0] rfl ?_
  exact bk_X9_discrepancy_4 C hr _ _ _ _ _ h
theorem dX9_isAmount_0 : decode cX9_isAmount 0 = .ok (.iload_n 0, 1) := by decide +kernel
theorem dX9_isAmount_1 : decode cX9_isAmount 1 = .ok (.iconst 1, 1) := by decide +kernel
theorem dX9_isAmount_2 : decode cX9_isAmount 2 = .ok (.if_icmp .lt 14, 3) := by decide +kernel
theorem dX9_isAmount_5 : decode cX9_isAmount 5 = .ok (.iload_n 0, 1) := by decide +kernel
theorem dX9_isAmount_6 : decode cX9_isAmount 6 = .ok (.sipush 5000, 3) := by decide +kernel
theorem dX9_isAmount_9 : decode cX9_isAmount 9 = .ok (.if_icmp .gt 7, 3) := by decide +kernel
theorem dX9_isAmount_12 : decode cX9_isAmount 12 = .ok (.iconst 1, 1) := by decide +kernel
theorem dX9_isAmount_13 : decode cX9_isAmount 13 = .ok (.goto 4, 3) := by decide +kernel
theorem dX9_isAmount_16 : decode cX9_isAmount 16 = .ok (.iconst 0, 1) := by decide +kernel
theorem dX9_isAmount_17 : decode cX9_isAmount 17 = .ok (.ireturn, 1) := by decide +kernel
def fn_X9_isAmount (N : Nat) (M : Mem) (x0 : Int32) : Option (Int32 × Mem) :=
  if x0 < 1 then
    some (0, M)
  else
    if 5000 < x0 then
      some (0, M)
    else
      some (1, M)
set_option maxRecDepth 100000 in
set_option maxHeartbeats 4000000 in
theorem ct_X9_isAmount {l : Launch} {ω : Wd} {k N : Nat} {M : Mem} {x0 : Int32} {r : Int32} {M' : Mem} (h : fn_X9_isAmount N M x0 = some (r, M')) : CM l ω k yX9_isAmount cX9_isAmount 1 (some .boolean) 0 0 0 [.int x0] M (some (.int r)) M' := by
  refine CM.of (by decide) (Nat.le_of_ble_eq_true rfl) fun Γ hl C hr hi => ?_
  subst hl
  unfold fn_X9_isAmount at h
  refine jv_iload_n C dX9_isAmount_0 rfl 0 rfl ?_
  refine jv_iconst (v := 1) C dX9_isAmount_1 (by decide) ?_
  refine jv_icmp_lt (tgt := 16) C dX9_isAmount_2 (by decide) h (fun h => ?_) (fun h => ?_)
  · refine jv_iconst (v := 0) C dX9_isAmount_16 (by decide) ?_
    exact jv_zretc C hr (Or.inl rfl) dX9_isAmount_17 h
  · refine jv_iload_n C dX9_isAmount_5 rfl 0 rfl ?_
    refine jv_sipush (v := 5000) C dX9_isAmount_6 (by decide) ?_
    refine jv_icmp_gt (tgt := 16) C dX9_isAmount_9 (by decide) h (fun h => ?_) (fun h => ?_)
    · refine jv_iconst (v := 0) C dX9_isAmount_16 (by decide) ?_
      exact jv_zretc C hr (Or.inl rfl) dX9_isAmount_17 h
    · refine jv_iconst (v := 1) C dX9_isAmount_12 (by decide) ?_
      refine jv_goto (tgt := 17) C dX9_isAmount_13 (by decide) ?_
      exact jv_zretc C hr (Or.inr rfl) dX9_isAmount_17 h
theorem dX9_planPayout_0 : decode cX9_planPayout 0 = .ok (.aload_n 0, 1) := by decide +kernel
theorem dX9_planPayout_1 : decode cX9_planPayout 1 = .ok (.getfield 62, 3) := by decide +kernel
theorem dX9_planPayout_4 : decode cX9_planPayout 4 = .ok (.aload_n 0, 1) := by decide +kernel
theorem dX9_planPayout_5 : decode cX9_planPayout 5 = .ok (.getfield 23, 3) := by decide +kernel
theorem dX9_planPayout_8 : decode cX9_planPayout 8 = .ok (.aload_n 0, 1) := by decide +kernel
theorem dX9_planPayout_9 : decode cX9_planPayout 9 = .ok (.getfield 33, 3) := by decide +kernel
theorem dX9_planPayout_12 : decode cX9_planPayout 12 = .ok (.getfield 199, 3) := by decide +kernel
theorem dX9_planPayout_15 : decode cX9_planPayout 15 = .ok (.invokevirtual 240, 3) := by decide +kernel
theorem dX9_planPayout_18 : decode cX9_planPayout 18 = .ok (.aload_n 0, 1) := by decide +kernel
theorem dX9_planPayout_19 : decode cX9_planPayout 19 = .ok (.getfield 62, 3) := by decide +kernel
theorem dX9_planPayout_22 : decode cX9_planPayout 22 = .ok (.aload_n 0, 1) := by decide +kernel
theorem dX9_planPayout_23 : decode cX9_planPayout 23 = .ok (.getfield 23, 3) := by decide +kernel
theorem dX9_planPayout_26 : decode cX9_planPayout 26 = .ok (.getfield 102, 3) := by decide +kernel
theorem dX9_planPayout_29 : decode cX9_planPayout 29 = .ok (.getfield 129, 3) := by decide +kernel
theorem dX9_planPayout_32 : decode cX9_planPayout 32 = .ok (.iload_n 1, 1) := by decide +kernel
theorem dX9_planPayout_33 : decode cX9_planPayout 33 = .ok (.invokevirtual 244, 3) := by decide +kernel
theorem dX9_planPayout_36 : decode cX9_planPayout 36 = .ok (.ireturn, 1) := by decide +kernel
def fn_X9_planPayout (N : Nat) (M : Mem) (a0 : Nat) (x1 : Int32) : Option (Int32 × Mem) :=
  (mm_gR M a0 9 10).bind fun b1 =>
  (mm_gR M a0 9 3).bind fun b2 =>
  (mm_gR M a0 9 5).bind fun b3 =>
  (mm_gR M b3 7 7).bind fun b4 =>
  (mm_ck M b1 5).bind fun _ => mm_b2 (fn_X5_takeStock N M b1 b2 b4) fun _ M5 =>
  (mm_gR M5 a0 9 10).bind fun b6 =>
  (mm_gR M5 a0 9 3).bind fun b7 =>
  (mm_gR M5 b7 0 0).bind fun b8 =>
  (mm_gR M5 b8 3 0).bind fun b9 =>
  (mm_ck M5 b6 5).bind fun _ => mm_b2 (fn_X5_plan N M5 b6 b9 x1) fun v11 M10 =>
  some (v11, M10)
set_option maxRecDepth 100000 in
set_option maxHeartbeats 4000000 in
theorem ct_X9_planPayout {l : Launch} {ω : Wd} {k N : Nat} {M : Mem} {a0 : Nat} {x1 : Int32} {r : Int32} {M' : Mem} (h : fn_X9_planPayout N M a0 x1 = some (r, M')) : CM l ω k yX9_planPayout cX9_planPayout 2 (some .int) 4 0 0 [.ref a0, .int x1] M (some (.int r)) M' := by
  refine CM.of (by decide) (Nat.le_of_ble_eq_true rfl) fun Γ hl C hr hi => ?_
  subst hl
  unfold fn_X9_planPayout at h
  refine jv_aload_n C dX9_planPayout_0 rfl 0 rfl ?_
  refine jv_getR C fa_X9_62 dX9_planPayout_1 h (fun b1 h => ?_)
  refine jv_aload_n C dX9_planPayout_4 rfl 0 rfl ?_
  refine jv_getR C fa_X9_23 dX9_planPayout_5 h (fun b2 h => ?_)
  refine jv_aload_n C dX9_planPayout_8 rfl 0 rfl ?_
  refine jv_getR C fa_X9_33 dX9_planPayout_9 h (fun b3 h => ?_)
  refine jv_getR C fa_X9_199 dX9_planPayout_12 h (fun b4 h => ?_)
  refine jv_vV0 (As := [.ref b2, .ref b4]) C lk_X9_240 rfl dX9_planPayout_15 rfl rfl (by decide) (by decide) (by decide) (Nat.le_of_ble_eq_true rfl) h (fun _ _ h => ct_X5_takeStock h) (fun _ M5 h => ?_)
  refine jv_aload_n C dX9_planPayout_18 rfl 0 rfl ?_
  refine jv_getR C fa_X9_62 dX9_planPayout_19 h (fun b6 h => ?_)
  refine jv_aload_n C dX9_planPayout_22 rfl 0 rfl ?_
  refine jv_getR C fa_X9_23 dX9_planPayout_23 h (fun b7 h => ?_)
  refine jv_getR C fa_X9_102 dX9_planPayout_26 h (fun b8 h => ?_)
  refine jv_getR C fa_X9_129 dX9_planPayout_29 h (fun b9 h => ?_)
  refine jv_iload_n C dX9_planPayout_32 rfl 1 rfl ?_
  refine jv_vI0 (As := [.ref b9, .int x1]) C lk_X9_244 rfl dX9_planPayout_33 rfl rfl (by decide) (by decide) (by decide) (Nat.le_of_ble_eq_true rfl) h (fun _ _ h => ct_X5_plan h) (fun v11 M10 h => ?_)
  exact jv_iret C hr dX9_planPayout_36 h
