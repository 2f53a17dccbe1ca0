theorem dX3_init_0 : decode cX3_init 0 = .ok (.aload_n 0, 1) := by decide +kernel
theorem dX3_init_1 : decode cX3_init 1 = .ok (.invokespecial 3, 3) := by decide +kernel
theorem dX3_init_4 : decode cX3_init 4 = .ok (.aload_n 0, 1) := by decide +kernel
theorem dX3_init_5 : decode cX3_init 5 = .ok (.new 9, 3) := by decide +kernel
theorem dX3_init_8 : decode cX3_init 8 = .ok (.dup, 1) := by decide +kernel
theorem dX3_init_9 : decode cX3_init 9 = .ok (.iload_n 1, 1) := by decide +kernel
theorem dX3_init_10 : decode cX3_init 10 = .ok (.invokespecial 11, 3) := by decide +kernel
theorem dX3_init_13 : decode cX3_init 13 = .ok (.putfield 14, 3) := by decide +kernel
theorem dX3_init_16 : decode cX3_init 16 = .ok (.aload_n 0, 1) := by decide +kernel
theorem dX3_init_17 : decode cX3_init 17 = .ok (.new 9, 3) := by decide +kernel
theorem dX3_init_20 : decode cX3_init 20 = .ok (.dup, 1) := by decide +kernel
theorem dX3_init_21 : decode cX3_init 21 = .ok (.iload_n 1, 1) := by decide +kernel
theorem dX3_init_22 : decode cX3_init 22 = .ok (.invokespecial 11, 3) := by decide +kernel
theorem dX3_init_25 : decode cX3_init 25 = .ok (.putfield 20, 3) := by decide +kernel
theorem dX3_init_28 : decode cX3_init 28 = .ok (.aload_n 0, 1) := by decide +kernel
theorem dX3_init_29 : decode cX3_init 29 = .ok (.new 9, 3) := by decide +kernel
theorem dX3_init_32 : decode cX3_init 32 = .ok (.dup, 1) := by decide +kernel
theorem dX3_init_33 : decode cX3_init 33 = .ok (.iload_n 1, 1) := by decide +kernel
theorem dX3_init_34 : decode cX3_init 34 = .ok (.invokespecial 11, 3) := by decide +kernel
theorem dX3_init_37 : decode cX3_init 37 = .ok (.putfield 23, 3) := by decide +kernel
theorem dX3_init_40 : decode cX3_init 40 = .ok (.aload_n 0, 1) := by decide +kernel
theorem dX3_init_41 : decode cX3_init 41 = .ok (.new 9, 3) := by decide +kernel
theorem dX3_init_44 : decode cX3_init 44 = .ok (.dup, 1) := by decide +kernel
theorem dX3_init_45 : decode cX3_init 45 = .ok (.iload_n 1, 1) := by decide +kernel
theorem dX3_init_46 : decode cX3_init 46 = .ok (.invokespecial 11, 3) := by decide +kernel
theorem dX3_init_49 : decode cX3_init 49 = .ok (.putfield 26, 3) := by decide +kernel
theorem dX3_init_52 : decode cX3_init 52 = .ok (.aload_n 0, 1) := by decide +kernel
theorem dX3_init_53 : decode cX3_init 53 = .ok (.new 9, 3) := by decide +kernel
theorem dX3_init_56 : decode cX3_init 56 = .ok (.dup, 1) := by decide +kernel
theorem dX3_init_57 : decode cX3_init 57 = .ok (.iload_n 1, 1) := by decide +kernel
theorem dX3_init_58 : decode cX3_init 58 = .ok (.invokespecial 11, 3) := by decide +kernel
theorem dX3_init_61 : decode cX3_init 61 = .ok (.putfield 29, 3) := by decide +kernel
theorem dX3_init_64 : decode cX3_init 64 = .ok (.return_, 1) := by decide +kernel
def fn_X3_init (N : Nat) (M : Mem) (a0 : Nat) (x1 : Int32) : Option (Unit × Mem) :=
  mm_nm M.length (M ++ [.inr (6, [.null, .int 0])]) fun b1 M2 =>
  mm_b2 (fn_X6_init N M2 b1 x1) fun _ M3 =>
  (mm_pV M3 a0 3 0 (.ref b1)).bind fun M4 =>
  mm_nm M4.length (M4 ++ [.inr (6, [.null, .int 0])]) fun b5 M6 =>
  mm_b2 (fn_X6_init N M6 b5 x1) fun _ M7 =>
  (mm_pV M7 a0 3 1 (.ref b5)).bind fun M8 =>
  mm_nm M8.length (M8 ++ [.inr (6, [.null, .int 0])]) fun b9 M10 =>
  mm_b2 (fn_X6_init N M10 b9 x1) fun _ M11 =>
  (mm_pV M11 a0 3 2 (.ref b9)).bind fun M12 =>
  mm_nm M12.length (M12 ++ [.inr (6, [.null, .int 0])]) fun b13 M14 =>
  mm_b2 (fn_X6_init N M14 b13 x1) fun _ M15 =>
  (mm_pV M15 a0 3 3 (.ref b13)).bind fun M16 =>
  mm_nm M16.length (M16 ++ [.inr (6, [.null, .int 0])]) fun b17 M18 =>
  mm_b2 (fn_X6_init N M18 b17 x1) fun _ M19 =>
  (mm_pV M19 a0 3 4 (.ref b17)).bind fun M20 =>
  some ((), M20)
set_option maxRecDepth 100000 in
set_option maxHeartbeats 4000000 in
theorem ct_X3_init {l : Launch} {ω : Wd} {N : Nat} {M : Mem} {a0 : Nat} {x1 : Int32} {r : Unit} {M' : Mem} (h : fn_X3_init N M a0 x1 = some (r, M')) : CM l ω 0 yX3_init cX3_init 2 none 2 10 310 [.ref a0, .int x1] M none M' := by
  refine CM.of (by decide) (Nat.le_of_ble_eq_true rfl) fun Γ hl C hr hi => ?_
  subst hl
  unfold fn_X3_init at h
  refine jv_aload_n C dX3_init_0 rfl 0 rfl ?_
  refine jv_objInit C gw_178 gw_129 gw_130 (Nat.le_of_ble_eq_true rfl) dX3_init_1 ?_
  refine jv_aload_n C dX3_init_4 rfl 0 rfl ?_
  refine jv_new (ci := 6) (fs := [.null, .int 0]) (tf := tyX6) C rfl uw_X6 tyX6_ok gw_179 gw_180 gw_97 (fun j hj => nd_X6 ω j hj) (by decide) (by decide) dX3_init_5 ?_
  refine jv_name h (fun b1 M2 h => ?_)
  refine jv_dup C dX3_init_8 rfl ?_
  refine jv_iload_n C dX3_init_9 rfl 1 rfl ?_
  refine jv_iV (As := [.int x1]) C lk_X3_11 dX3_init_10 rfl rfl (by decide) (by decide) (by decide) (Nat.le_of_ble_eq_true rfl) h (fun _ _ h => ct_X6_init h) (fun _ M3 h => ?_)
  refine jv_putFR C fp_X3_14 hi dX3_init_13 (fun _ => ⟨rfl, rfl⟩) h (fun M4 h => ?_)
  refine jv_aload_n C dX3_init_16 rfl 0 rfl ?_
  refine jv_new (ci := 6) (fs := [.null, .int 0]) (tf := tyX6) C rfl uw_X6 tyX6_ok gw_179 gw_180 gw_97 (fun j hj => nd_X6 ω j hj) (by decide) (by decide) dX3_init_17 ?_
  refine jv_name h (fun b5 M6 h => ?_)
  refine jv_dup C dX3_init_20 rfl ?_
  refine jv_iload_n C dX3_init_21 rfl 1 rfl ?_
  refine jv_iV (As := [.int x1]) C lk_X3_11 dX3_init_22 rfl rfl (by decide) (by decide) (by decide) (Nat.le_of_ble_eq_true rfl) h (fun _ _ h => ct_X6_init h) (fun _ M7 h => ?_)
  refine jv_putFR C fp_X3_20 hi dX3_init_25 (fun _ => ⟨rfl, rfl⟩) h (fun M8 h => ?_)
  refine jv_aload_n C dX3_init_28 rfl 0 rfl ?_
  refine jv_new (ci := 6) (fs := [.null, .int 0]) (tf := tyX6) C rfl uw_X6 tyX6_ok gw_179 gw_180 gw_97 (fun j hj => nd_X6 ω j hj) (by decide) (by decide) dX3_init_29 ?_
  refine jv_name h (fun b9 M10 h => ?_)
  refine jv_dup C dX3_init_32 rfl ?_
  refine jv_iload_n C dX3_init_33 rfl 1 rfl ?_
  refine jv_iV (As := [.int x1]) C lk_X3_11 dX3_init_34 rfl rfl (by decide) (by decide) (by decide) (Nat.le_of_ble_eq_true rfl) h (fun _ _ h => ct_X6_init h) (fun _ M11 h => ?_)
  refine jv_putFR C fp_X3_23 hi dX3_init_37 (fun _ => ⟨rfl, rfl⟩) h (fun M12 h => ?_)
  refine jv_aload_n C dX3_init_40 rfl 0 rfl ?_
  refine jv_new (ci := 6) (fs := [.null, .int 0]) (tf := tyX6) C rfl uw_X6 tyX6_ok gw_179 gw_180 gw_97 (fun j hj => nd_X6 ω j hj) (by decide) (by decide) dX3_init_41 ?_
  refine jv_name h (fun b13 M14 h => ?_)
  refine jv_dup C dX3_init_44 rfl ?_
  refine jv_iload_n C dX3_init_45 rfl 1 rfl ?_
  refine jv_iV (As := [.int x1]) C lk_X3_11 dX3_init_46 rfl rfl (by decide) (by decide) (by decide) (Nat.le_of_ble_eq_true rfl) h (fun _ _ h => ct_X6_init h) (fun _ M15 h => ?_)
  refine jv_putFR C fp_X3_26 hi dX3_init_49 (fun _ => ⟨rfl, rfl⟩) h (fun M16 h => ?_)
  refine jv_aload_n C dX3_init_52 rfl 0 rfl ?_
  refine jv_new (ci := 6) (fs := [.null, .int 0]) (tf := tyX6) C rfl uw_X6 tyX6_ok gw_179 gw_180 gw_97 (fun j hj => nd_X6 ω j hj) (by decide) (by decide) dX3_init_53 ?_
  refine jv_name h (fun b17 M18 h => ?_)
  refine jv_dup C dX3_init_56 rfl ?_
  refine jv_iload_n C dX3_init_57 rfl 1 rfl ?_
  refine jv_iV (As := [.int x1]) C lk_X3_11 dX3_init_58 rfl rfl (by decide) (by decide) (by decide) (Nat.le_of_ble_eq_true rfl) h (fun _ _ h => ct_X6_init h) (fun _ M19 h => ?_)
  refine jv_putFR C fp_X3_29 hi dX3_init_61 (fun _ => ⟨rfl, rfl⟩) h (fun M20 h => ?_)
  exact jv_vret C hr dX3_init_64 h
theorem dX3_empty_0 : decode cX3_empty 0 = .ok (.aload_n 0, 1) := by decide +kernel
theorem dX3_empty_1 : decode cX3_empty 1 = .ok (.getfield 14, 3) := by decide +kernel
theorem dX3_empty_4 : decode cX3_empty 4 = .ok (.invokevirtual 36, 3) := by decide +kernel
theorem dX3_empty_7 : decode cX3_empty 7 = .ok (.aload_n 0, 1) := by decide +kernel
theorem dX3_empty_8 : decode cX3_empty 8 = .ok (.getfield 20, 3) := by decide +kernel
theorem dX3_empty_11 : decode cX3_empty 11 = .ok (.invokevirtual 36, 3) := by decide +kernel
theorem dX3_empty_14 : decode cX3_empty 14 = .ok (.aload_n 0, 1) := by decide +kernel
theorem dX3_empty_15 : decode cX3_empty 15 = .ok (.getfield 23, 3) := by decide +kernel
theorem dX3_empty_18 : decode cX3_empty 18 = .ok (.invokevirtual 36, 3) := by decide +kernel
theorem dX3_empty_21 : decode cX3_empty 21 = .ok (.aload_n 0, 1) := by decide +kernel
theorem dX3_empty_22 : decode cX3_empty 22 = .ok (.getfield 26, 3) := by decide +kernel
theorem dX3_empty_25 : decode cX3_empty 25 = .ok (.invokevirtual 36, 3) := by decide +kernel
theorem dX3_empty_28 : decode cX3_empty 28 = .ok (.aload_n 0, 1) := by decide +kernel
theorem dX3_empty_29 : decode cX3_empty 29 = .ok (.getfield 29, 3) := by decide +kernel
theorem dX3_empty_32 : decode cX3_empty 32 = .ok (.invokevirtual 36, 3) := by decide +kernel
theorem dX3_empty_35 : decode cX3_empty 35 = .ok (.return_, 1) := by decide +kernel
def fn_X3_empty (N : Nat) (M : Mem) (a0 : Nat) : Option (Unit × Mem) :=
  (mm_gR M a0 3 0).bind fun b1 =>
  (mm_ck M b1 6).bind fun _ => mm_b2 (fn_X6_empty N M b1) fun _ M2 =>
  (mm_gR M2 a0 3 1).bind fun b3 =>
  (mm_ck M2 b3 6).bind fun _ => mm_b2 (fn_X6_empty N M2 b3) fun _ M4 =>
  (mm_gR M4 a0 3 2).bind fun b5 =>
  (mm_ck M4 b5 6).bind fun _ => mm_b2 (fn_X6_empty N M4 b5) fun _ M6 =>
  (mm_gR M6 a0 3 3).bind fun b7 =>
  (mm_ck M6 b7 6).bind fun _ => mm_b2 (fn_X6_empty N M6 b7) fun _ M8 =>
  (mm_gR M8 a0 3 4).bind fun b9 =>
  (mm_ck M8 b9 6).bind fun _ => mm_b2 (fn_X6_empty N M8 b9) fun _ M10 =>
  some ((), M10)
set_option maxRecDepth 100000 in
set_option maxHeartbeats 4000000 in
theorem ct_X3_empty {l : Launch} {ω : Wd} {k N : Nat} {M : Mem} {a0 : Nat} {r : Unit} {M' : Mem} (h : fn_X3_empty N M a0 = some (r, M')) : CM l ω k yX3_empty cX3_empty 1 none 1 0 0 [.ref a0] M none M' := by
  refine CM.of (by decide) (Nat.le_of_ble_eq_true rfl) fun Γ hl C hr hi => ?_
  subst hl
  unfold fn_X3_empty at h
  refine jv_aload_n C dX3_empty_0 rfl 0 rfl ?_
  refine jv_getR C fa_X3_14 dX3_empty_1 h (fun b1 h => ?_)
  refine jv_vV0 (As := []) C lk_X3_36 rfl dX3_empty_4 rfl rfl (by decide) (by decide) (by decide) (Nat.le_of_ble_eq_true rfl) h (fun _ _ h => ct_X6_empty h) (fun _ M2 h => ?_)
  refine jv_aload_n C dX3_empty_7 rfl 0 rfl ?_
  refine jv_getR C fa_X3_20 dX3_empty_8 h (fun b3 h => ?_)
  refine jv_vV0 (As := []) C lk_X3_36 rfl dX3_empty_11 rfl rfl (by decide) (by decide) (by decide) (Nat.le_of_ble_eq_true rfl) h (fun _ _ h => ct_X6_empty h) (fun _ M4 h => ?_)
  refine jv_aload_n C dX3_empty_14 rfl 0 rfl ?_
  refine jv_getR C fa_X3_23 dX3_empty_15 h (fun b5 h => ?_)
  refine jv_vV0 (As := []) C lk_X3_36 rfl dX3_empty_18 rfl rfl (by decide) (by decide) (by decide) (Nat.le_of_ble_eq_true rfl) h (fun _ _ h => ct_X6_empty h) (fun _ M6 h => ?_)
  refine jv_aload_n C dX3_empty_21 rfl 0 rfl ?_
  refine jv_getR C fa_X3_26 dX3_empty_22 h (fun b7 h => ?_)
  refine jv_vV0 (As := []) C lk_X3_36 rfl dX3_empty_25 rfl rfl (by decide) (by decide) (by decide) (Nat.le_of_ble_eq_true rfl) h (fun _ _ h => ct_X6_empty h) (fun _ M8 h => ?_)
  refine jv_aload_n C dX3_empty_28 rfl 0 rfl ?_
  refine jv_getR C fa_X3_29 dX3_empty_29 h (fun b9 h => ?_)
  refine jv_vV0 (As := []) C lk_X3_36 rfl dX3_empty_32 rfl rfl (by decide) (by decide) (by decide) (Nat.le_of_ble_eq_true rfl) h (fun _ _ h => ct_X6_empty h) (fun _ M10 h => ?_)
  exact jv_vret C hr dX3_empty_35 h
theorem dX3_count_0 : decode cX3_count 0 = .ok (.aload_n 0, 1) := by decide +kernel
theorem dX3_count_1 : decode cX3_count 1 = .ok (.getfield 14, 3) := by decide +kernel
theorem dX3_count_4 : decode cX3_count 4 = .ok (.getfield 32, 3) := by decide +kernel
theorem dX3_count_7 : decode cX3_count 7 = .ok (.ireturn, 1) := by decide +kernel
def fn_X3_count (N : Nat) (M : Mem) (a0 : Nat) : Option (Int32 × Mem) :=
  (mm_gR M a0 3 0).bind fun b1 =>
  (mm_gI M b1 6 1).bind fun v2 =>
  some (v2, M)
set_option maxRecDepth 100000 in
set_option maxHeartbeats 4000000 in
theorem ct_X3_count {l : Launch} {ω : Wd} {k N : Nat} {M : Mem} {a0 : Nat} {r : Int32} {M' : Mem} (h : fn_X3_count N M a0 = some (r, M')) : CM l ω k yX3_count cX3_count 1 (some .int) 0 0 0 [.ref a0] M (some (.int r)) M' := by
  refine CM.of (by decide) (Nat.le_of_ble_eq_true rfl) fun Γ hl C hr hi => ?_
  subst hl
  unfold fn_X3_count at h
  refine jv_aload_n C dX3_count_0 rfl 0 rfl ?_
  refine jv_getR C fa_X3_14 dX3_count_1 h (fun b1 h => ?_)
  refine jv_getI C fa_X3_32 dX3_count_4 h (fun v2 h => ?_)
  exact jv_iret C hr dX3_count_7 h
theorem dX3_deviation_0 : decode cX3_deviation 0 = .ok (.iload_n 2, 1) := by decide +kernel
theorem dX3_deviation_1 : decode cX3_deviation 1 = .ok (.iconst 1, 1) := by decide +kernel
theorem dX3_deviation_2 : decode cX3_deviation 2 = .ok (.if_icmp .ge 6, 3) := by decide +kernel
theorem dX3_deviation_5 : decode cX3_deviation 5 = .ok (.ldc 47, 2) := by decide +kernel
theorem dX3_deviation_7 : decode cX3_deviation 7 = .ok (.ireturn, 1) := by decide +kernel
theorem dX3_deviation_8 : decode cX3_deviation 8 = .ok (.iload_n 0, 1) := by decide +kernel
theorem dX3_deviation_9 : decode cX3_deviation 9 = .ok (.iload_n 1, 1) := by decide +kernel
theorem dX3_deviation_10 : decode cX3_deviation 10 = .ok (.if_icmp .ge 9, 3) := by decide +kernel
theorem dX3_deviation_13 : decode cX3_deviation 13 = .ok (.iload_n 1, 1) := by decide +kernel
theorem dX3_deviation_14 : decode cX3_deviation 14 = .ok (.iload_n 0, 1) := by decide +kernel
theorem dX3_deviation_15 : decode cX3_deviation 15 = .ok (.isub, 1) := by decide +kernel
theorem dX3_deviation_16 : decode cX3_deviation 16 = .ok (.goto 6, 3) := by decide +kernel
theorem dX3_deviation_19 : decode cX3_deviation 19 = .ok (.iload_n 0, 1) := by decide +kernel
theorem dX3_deviation_20 : decode cX3_deviation 20 = .ok (.iload_n 1, 1) := by decide +kernel
theorem dX3_deviation_21 : decode cX3_deviation 21 = .ok (.isub, 1) := by decide +kernel
theorem dX3_deviation_22 : decode cX3_deviation 22 = .ok (.istore_n 3, 1) := by decide +kernel
theorem dX3_deviation_23 : decode cX3_deviation 23 = .ok (.sipush 1000, 3) := by decide +kernel
theorem dX3_deviation_26 : decode cX3_deviation 26 = .ok (.iload_n 3, 1) := by decide +kernel
theorem dX3_deviation_27 : decode cX3_deviation 27 = .ok (.imul, 1) := by decide +kernel
theorem dX3_deviation_28 : decode cX3_deviation 28 = .ok (.iload_n 2, 1) := by decide +kernel
theorem dX3_deviation_29 : decode cX3_deviation 29 = .ok (.iadd, 1) := by decide +kernel
theorem dX3_deviation_30 : decode cX3_deviation 30 = .ok (.iconst 1, 1) := by decide +kernel
theorem dX3_deviation_31 : decode cX3_deviation 31 = .ok (.isub, 1) := by decide +kernel
theorem dX3_deviation_32 : decode cX3_deviation 32 = .ok (.iload_n 2, 1) := by decide +kernel
theorem dX3_deviation_33 : decode cX3_deviation 33 = .ok (.idiv, 1) := by decide +kernel
theorem dX3_deviation_34 : decode cX3_deviation 34 = .ok (.ireturn, 1) := by decide +kernel
def fn_X3_deviation_22 (N : Nat) (M : Mem) (x2 : Int32) (s0 : Int32) : Option (Int32 × Mem) :=
  (mm_dI (((1000 * s0) + x2) - 1) x2).bind fun v1 =>
  some (v1, M)
set_option maxRecDepth 100000 in
set_option maxHeartbeats 4000000 in
theorem bk_X3_deviation_22 {Γ : Gm} {ω : Wd} {k N : Nat} {r : Int32} {M' : Mem} (C : Cx Γ cX3_deviation 4 RX3 ω 0 0 0) (hr : Γ.meth.sig.returnType = (some .int)) (M : Mem) (x2 : Int32) (s0 : Int32) (h : fn_X3_deviation_22 N M x2 s0 = some (r, M')) : JJ Γ (QF Γ ω k 0 0 (some (.int r)) M') 4 ω k M 0 0 22 [(2, .int x2)] [.int s0] := by
  unfold fn_X3_deviation_22 at h
  refine jv_istore_n (lv' := [(3, .int s0), (2, .int x2)]) C dX3_deviation_22 rfl (by decide) rfl ?_
  refine jv_sipush (v := 1000) C dX3_deviation_23 (by decide) ?_
  refine jv_iload_n C dX3_deviation_26 rfl 0 rfl ?_
  refine jv_imul C dX3_deviation_27 ?_
  refine jv_iload_n C dX3_deviation_28 rfl 1 rfl ?_
  refine jv_iadd C dX3_deviation_29 ?_
  refine jv_iconst (v := 1) C dX3_deviation_30 (by decide) ?_
  refine jv_isub C dX3_deviation_31 ?_
  refine jv_iload_n C dX3_deviation_32 rfl 1 rfl ?_
  refine jv_idiv C dX3_deviation_33 h (fun v1 h => ?_)
  exact jv_iret C hr dX3_deviation_34 h
def fn_X3_deviation (N : Nat) (M : Mem) (x0 : Int32) (x1 : Int32) (x2 : Int32) : Option (Int32 × Mem) :=
  if 1 ≤ x2 then
    if x1 ≤ x0 then
      fn_X3_deviation_22 N M x2 ((x0 - x1))
    else
      fn_X3_deviation_22 N M x2 ((x1 - x0))
  else
    some (1000000, M)
set_option maxRecDepth 100000 in
set_option maxHeartbeats 4000000 in
theorem ct_X3_deviation {l : Launch} {ω : Wd} {k N : Nat} {M : Mem} {x0 : Int32} {x1 : Int32} {x2 : Int32} {r : Int32} {M' : Mem} (h : fn_X3_deviation N M x0 x1 x2 = some (r, M')) : CM l ω k yX3_deviation cX3_deviation 4 (some .int) 0 0 0 [.int x0, .int x1, .int x2] M (some (.int r)) M' := by
  refine CM.of (by decide) (Nat.le_of_ble_eq_true rfl) fun Γ hl C hr hi => ?_
  subst hl
  unfold fn_X3_deviation at h
  refine jv_iload_n C dX3_deviation_0 rfl 2 rfl ?_
  refine jv_iconst (v := 1) C dX3_deviation_1 (by decide) ?_
  refine jv_icmp_ge (tgt := 8) C dX3_deviation_2 (by decide) h (fun h => ?_) (fun h => ?_)
  · refine jv_iload_n C dX3_deviation_8 rfl 0 rfl ?_
    refine jv_iload_n C dX3_deviation_9 rfl 1 rfl ?_
    refine jv_icmp_ge (tgt := 19) C dX3_deviation_10 (by decide) h (fun h => ?_) (fun h => ?_)
    · refine jv_iload_n C dX3_deviation_19 rfl 0 rfl ?_
      refine jv_iload_n C dX3_deviation_20 rfl 1 rfl ?_
      refine jv_isub C dX3_deviation_21 ?_
      refine jv_sub [2] rfl ?_
      exact bk_X3_deviation_22 C hr _ _ _ h
    · refine jv_iload_n C dX3_deviation_13 rfl 1 rfl ?_
      refine jv_iload_n C dX3_deviation_14 rfl 0 rfl ?_
      refine jv_isub C dX3_deviation_15 ?_
      refine jv_goto (tgt := 22) C dX3_deviation_16 (by decide) ?_
      refine jv_sub [2] rfl ?_
      exact bk_X3_deviation_22 C hr _ _ _ h
  · refine jv_ldc C gw_1036 dX3_deviation_5 ?_
    exact jv_iret C hr dX3_deviation_7 h
theorem dX3_scoreOf_0 : decode cX3_scoreOf 0 = .ok (.iload_n 2, 1) := by decide +kernel
theorem dX3_scoreOf_1 : decode cX3_scoreOf 1 = .ok (.aload_n 0, 1) := by decide +kernel
theorem dX3_scoreOf_2 : decode cX3_scoreOf 2 = .ok (.getfield 20, 3) := by decide +kernel
theorem dX3_scoreOf_5 : decode cX3_scoreOf 5 = .ok (.iload_n 1, 1) := by decide +kernel
theorem dX3_scoreOf_6 : decode cX3_scoreOf 6 = .ok (.invokevirtual 39, 3) := by decide +kernel
theorem dX3_scoreOf_9 : decode cX3_scoreOf 9 = .ok (.aload_n 0, 1) := by decide +kernel
theorem dX3_scoreOf_10 : decode cX3_scoreOf 10 = .ok (.getfield 23, 3) := by decide +kernel
theorem dX3_scoreOf_13 : decode cX3_scoreOf 13 = .ok (.iload_n 1, 1) := by decide +kernel
theorem dX3_scoreOf_14 : decode cX3_scoreOf 14 = .ok (.invokevirtual 39, 3) := by decide +kernel
theorem dX3_scoreOf_17 : decode cX3_scoreOf 17 = .ok (.invokestatic 43, 3) := by decide +kernel
theorem dX3_scoreOf_20 : decode cX3_scoreOf 20 = .ok (.istore 4, 2) := by decide +kernel
theorem dX3_scoreOf_22 : decode cX3_scoreOf 22 = .ok (.iload_n 3, 1) := by decide +kernel
theorem dX3_scoreOf_23 : decode cX3_scoreOf 23 = .ok (.aload_n 0, 1) := by decide +kernel
theorem dX3_scoreOf_24 : decode cX3_scoreOf 24 = .ok (.getfield 26, 3) := by decide +kernel
theorem dX3_scoreOf_27 : decode cX3_scoreOf 27 = .ok (.iload_n 1, 1) := by decide +kernel
theorem dX3_scoreOf_28 : decode cX3_scoreOf 28 = .ok (.invokevirtual 39, 3) := by decide +kernel
theorem dX3_scoreOf_31 : decode cX3_scoreOf 31 = .ok (.aload_n 0, 1) := by decide +kernel
theorem dX3_scoreOf_32 : decode cX3_scoreOf 32 = .ok (.getfield 29, 3) := by decide +kernel
theorem dX3_scoreOf_35 : decode cX3_scoreOf 35 = .ok (.iload_n 1, 1) := by decide +kernel
theorem dX3_scoreOf_36 : decode cX3_scoreOf 36 = .ok (.invokevirtual 39, 3) := by decide +kernel
theorem dX3_scoreOf_39 : decode cX3_scoreOf 39 = .ok (.invokestatic 43, 3) := by decide +kernel
theorem dX3_scoreOf_42 : decode cX3_scoreOf 42 = .ok (.istore 5, 2) := by decide +kernel
theorem dX3_scoreOf_44 : decode cX3_scoreOf 44 = .ok (.iload 4, 2) := by decide +kernel
theorem dX3_scoreOf_46 : decode cX3_scoreOf 46 = .ok (.sipush 1000, 3) := by decide +kernel
theorem dX3_scoreOf_49 : decode cX3_scoreOf 49 = .ok (.if_icmp .gt 11, 3) := by decide +kernel
theorem dX3_scoreOf_52 : decode cX3_scoreOf 52 = .ok (.iload 5, 2) := by decide +kernel
theorem dX3_scoreOf_54 : decode cX3_scoreOf 54 = .ok (.sipush 1000, 3) := by decide +kernel
theorem dX3_scoreOf_57 : decode cX3_scoreOf 57 = .ok (.if_icmp .le 8, 3) := by decide +kernel
theorem dX3_scoreOf_60 : decode cX3_scoreOf 60 = .ok (.ldc 47, 2) := by decide +kernel
theorem dX3_scoreOf_62 : decode cX3_scoreOf 62 = .ok (.goto 8, 3) := by decide +kernel
theorem dX3_scoreOf_65 : decode cX3_scoreOf 65 = .ok (.iload 4, 2) := by decide +kernel
theorem dX3_scoreOf_67 : decode cX3_scoreOf 67 = .ok (.iload 5, 2) := by decide +kernel
theorem dX3_scoreOf_69 : decode cX3_scoreOf 69 = .ok (.iadd, 1) := by decide +kernel
theorem dX3_scoreOf_70 : decode cX3_scoreOf 70 = .ok (.ireturn, 1) := by decide +kernel
def fn_X3_scoreOf (N : Nat) (M : Mem) (a0 : Nat) (x1 : Int32) (x2 : Int32) (x3 : Int32) : Option (Int32 × Mem) :=
  (mm_gR M a0 3 1).bind fun b1 =>
  (mm_ck M b1 6).bind fun _ => mm_b2 (fn_X6_at N M b1 x1) fun v3 M2 =>
  (mm_gR M2 a0 3 2).bind fun b4 =>
  (mm_ck M2 b4 6).bind fun _ => mm_b2 (fn_X6_at N M2 b4 x1) fun v6 M5 =>
  mm_b2 (fn_X3_deviation N M5 x2 v3 v6) fun v8 M7 =>
  (mm_gR M7 a0 3 3).bind fun b9 =>
  (mm_ck M7 b9 6).bind fun _ => mm_b2 (fn_X6_at N M7 b9 x1) fun v11 M10 =>
  (mm_gR M10 a0 3 4).bind fun b12 =>
  (mm_ck M10 b12 6).bind fun _ => mm_b2 (fn_X6_at N M10 b12 x1) fun v14 M13 =>
  mm_b2 (fn_X3_deviation N M13 x3 v11 v14) fun v16 M15 =>
  if 1000 < v8 then
    some (1000000, M15)
  else
    if v16 ≤ 1000 then
      some ((v8 + v16), M15)
    else
      some (1000000, M15)
set_option maxRecDepth 100000 in
set_option maxHeartbeats 4000000 in
theorem ct_X3_scoreOf {l : Launch} {ω : Wd} {k N : Nat} {M : Mem} {a0 : Nat} {x1 : Int32} {x2 : Int32} {x3 : Int32} {r : Int32} {M' : Mem} (h : fn_X3_scoreOf N M a0 x1 x2 x3 = some (r, M')) : CM l ω k yX3_scoreOf cX3_scoreOf 6 (some .int) 1 0 0 [.ref a0, .int x1, .int x2, .int x3] M (some (.int r)) M' := by
  refine CM.of (by decide) (Nat.le_of_ble_eq_true rfl) fun Γ hl C hr hi => ?_
  subst hl
  unfold fn_X3_scoreOf at h
  refine jv_iload_n C dX3_scoreOf_0 rfl 2 rfl ?_
  refine jv_aload_n C dX3_scoreOf_1 rfl 0 rfl ?_
  refine jv_getR C fa_X3_20 dX3_scoreOf_2 h (fun b1 h => ?_)
  refine jv_iload_n C dX3_scoreOf_5 rfl 1 rfl ?_
  refine jv_vI0 (As := [.int x1]) C lk_X3_39 rfl dX3_scoreOf_6 rfl rfl (by decide) (by decide) (by decide) (Nat.le_of_ble_eq_true rfl) h (fun _ _ h => ct_X6_at h) (fun v3 M2 h => ?_)
  refine jv_aload_n C dX3_scoreOf_9 rfl 0 rfl ?_
  refine jv_getR C fa_X3_23 dX3_scoreOf_10 h (fun b4 h => ?_)
  refine jv_iload_n C dX3_scoreOf_13 rfl 1 rfl ?_
  refine jv_vI0 (As := [.int x1]) C lk_X3_39 rfl dX3_scoreOf_14 rfl rfl (by decide) (by decide) (by decide) (Nat.le_of_ble_eq_true rfl) h (fun _ _ h => ct_X6_at h) (fun v6 M5 h => ?_)
  refine jv_sI0 (As := [.int x2, .int v3, .int v6]) C lk_X3_43 dX3_scoreOf_17 rfl rfl (by decide) (by decide) (by decide) (Nat.le_of_ble_eq_true rfl) h (fun _ _ h => ct_X3_deviation h) (fun v8 M7 h => ?_)
  refine jv_istore (lv' := [(4, .int v8), (0, .ref a0), (1, .int x1), (2, .int x2), (3, .int x3)]) C dX3_scoreOf_20 (by decide) rfl ?_
  refine jv_iload_n C dX3_scoreOf_22 rfl 4 rfl ?_
  refine jv_aload_n C dX3_scoreOf_23 rfl 1 rfl ?_
  refine jv_getR C fa_X3_26 dX3_scoreOf_24 h (fun b9 h => ?_)
  refine jv_iload_n C dX3_scoreOf_27 rfl 2 rfl ?_
  refine jv_vI0 (As := [.int x1]) C lk_X3_39 rfl dX3_scoreOf_28 rfl rfl (by decide) (by decide) (by decide) (Nat.le_of_ble_eq_true rfl) h (fun _ _ h => ct_X6_at h) (fun v11 M10 h => ?_)
  refine jv_aload_n C dX3_scoreOf_31 rfl 1 rfl ?_
  refine jv_getR C fa_X3_29 dX3_scoreOf_32 h (fun b12 h => ?_)
  refine jv_iload_n C dX3_scoreOf_35 rfl 2 rfl ?_
  refine jv_vI0 (As := [.int x1]) C lk_X3_39 rfl dX3_scoreOf_36 rfl rfl (by decide) (by decide) (by decide) (Nat.le_of_ble_eq_true rfl) h (fun _ _ h => ct_X6_at h) (fun v14 M13 h => ?_)
  refine jv_sI0 (As := [.int x3, .int v11, .int v14]) C lk_X3_43 dX3_scoreOf_39 rfl rfl (by decide) (by decide) (by decide) (Nat.le_of_ble_eq_true rfl) h (fun _ _ h => ct_X3_deviation h) (fun v16 M15 h => ?_)
  refine jv_istore (lv' := [(5, .int v16), (4, .int v8), (0, .ref a0), (1, .int x1), (2, .int x2), (3, .int x3)]) C dX3_scoreOf_42 (by decide) rfl ?_
  refine jv_iload C dX3_scoreOf_44 1 rfl ?_
  refine jv_sipush (v := 1000) C dX3_scoreOf_46 (by decide) ?_
  refine jv_icmp_gt (tgt := 60) C dX3_scoreOf_49 (by decide) h (fun h => ?_) (fun h => ?_)
  · refine jv_ldc C gw_1036 dX3_scoreOf_60 ?_
    refine jv_goto (tgt := 70) C dX3_scoreOf_62 (by decide) ?_
    exact jv_iret C hr dX3_scoreOf_70 h
  · refine jv_iload C dX3_scoreOf_52 0 rfl ?_
    refine jv_sipush (v := 1000) C dX3_scoreOf_54 (by decide) ?_
    refine jv_icmp_le (tgt := 65) C dX3_scoreOf_57 (by decide) h (fun h => ?_) (fun h => ?_)
    · refine jv_iload C dX3_scoreOf_65 1 rfl ?_
      refine jv_iload C dX3_scoreOf_67 0 rfl ?_
      refine jv_iadd C dX3_scoreOf_69 ?_
      exact jv_iret C hr dX3_scoreOf_70 h
    · refine jv_ldc C gw_1036 dX3_scoreOf_60 ?_
      refine jv_goto (tgt := 70) C dX3_scoreOf_62 (by decide) ?_
      exact jv_iret C hr dX3_scoreOf_70 h
