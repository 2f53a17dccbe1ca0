theorem dX6_init_0 : decode cX6_init 0 = .ok (.aload_n 0, 1) := by decide +kernel
theorem dX6_init_1 : decode cX6_init 1 = .ok (.invokespecial 3, 3) := by decide +kernel
theorem dX6_init_4 : decode cX6_init 4 = .ok (.aload_n 0, 1) := by decide +kernel
theorem dX6_init_5 : decode cX6_init 5 = .ok (.iconst 0, 1) := by decide +kernel
theorem dX6_init_6 : decode cX6_init 6 = .ok (.iload_n 1, 1) := by decide +kernel
theorem dX6_init_7 : decode cX6_init 7 = .ok (.invokestatic 9, 3) := by decide +kernel
theorem dX6_init_10 : decode cX6_init 10 = .ok (.newarray .int, 2) := by decide +kernel
theorem dX6_init_12 : decode cX6_init 12 = .ok (.putfield 15, 3) := by decide +kernel
theorem dX6_init_15 : decode cX6_init 15 = .ok (.return_, 1) := by decide +kernel
def fn_X6_init (N : Nat) (M : Mem) (a0 : Nat) (x1 : Int32) : Option (Unit × Mem) :=
  mm_lt (if 0 < x1 then x1 else 0) fun v1 =>
  mm_b2 (mm_nA M 60 v1 (fun N => .inl (0, N, .inl (fun _ => 0)))) fun b2 M3 =>
  (mm_pV M3 a0 6 0 (.ref b2)).bind fun M4 =>
  some ((), M4)
set_option maxRecDepth 100000 in
set_option maxHeartbeats 4000000 in
theorem ct_X6_init {l : Launch} {ω : Wd} {N : Nat} {M : Mem} {a0 : Nat} {x1 : Int32} {r : Unit} {M' : Mem} (h : fn_X6_init N M a0 x1 = some (r, M')) : CM l ω 0 yX6_init cX6_init 2 none 1 1 60 [.ref a0, .int x1] M none M' := by
  refine CM.of (by decide) (Nat.le_of_ble_eq_true rfl) fun Γ hl C hr hi => ?_
  subst hl
  unfold fn_X6_init at h
  refine jv_aload_n C dX6_init_0 rfl 0 rfl ?_
  refine jv_objInit C gw_184 gw_129 gw_130 (Nat.le_of_ble_eq_true rfl) dX6_init_1 ?_
  refine jv_aload_n C dX6_init_4 rfl 0 rfl ?_
  refine jv_iconst (v := 0) C dX6_init_5 (by decide) ?_
  refine jv_iload_n C dX6_init_6 rfl 1 rfl ?_
  refine jv_mmax C gw_185 gw_186 gw_98 gw_187 (by decide) (by decide) (Nat.le_of_ble_eq_true rfl) dX6_init_7 ?_
  refine jv_nameI h (fun v1 h => ?_)
  refine jv_newa0 (lim := 60) C gw_200 (by decide) (by decide) (by decide) dX6_init_10 h (fun b2 M3 h => ?_)
  refine jv_putFR C fp_X6_15 hi dX6_init_12 (fun _ => ⟨rfl, rfl⟩) h (fun M4 h => ?_)
  exact jv_vret C hr dX6_init_15 h
theorem dX6_empty_0 : decode cX6_empty 0 = .ok (.aload_n 0, 1) := by decide +kernel
theorem dX6_empty_1 : decode cX6_empty 1 = .ok (.iconst 0, 1) := by decide +kernel
theorem dX6_empty_2 : decode cX6_empty 2 = .ok (.putfield 21, 3) := by decide +kernel
theorem dX6_empty_5 : decode cX6_empty 5 = .ok (.return_, 1) := by decide +kernel
def fn_X6_empty (N : Nat) (M : Mem) (a0 : Nat) : Option (Unit × Mem) :=
  (mm_pV M a0 6 1 (.int 0)).bind fun M1 =>
  some ((), M1)
set_option maxRecDepth 100000 in
set_option maxHeartbeats 4000000 in
theorem ct_X6_empty {l : Launch} {ω : Wd} {k N : Nat} {M : Mem} {a0 : Nat} {r : Unit} {M' : Mem} (h : fn_X6_empty N M a0 = some (r, M')) : CM l ω k yX6_empty cX6_empty 1 none 0 0 0 [.ref a0] M none M' := by
  refine CM.of (by decide) (Nat.le_of_ble_eq_true rfl) fun Γ hl C hr hi => ?_
  subst hl
  unfold fn_X6_empty at h
  refine jv_aload_n C dX6_empty_0 rfl 0 rfl ?_
  refine jv_iconst (v := 0) C dX6_empty_1 (by decide) ?_
  refine jv_putI C fp_X6_21 dX6_empty_2 h (fun M1 h => ?_)
  exact jv_vret C hr dX6_empty_5 h
theorem dX6_fillWithZeros_0 : decode cX6_fillWithZeros 0 = .ok (.aload_n 0, 1) := by decide +kernel
theorem dX6_fillWithZeros_1 : decode cX6_fillWithZeros 1 = .ok (.iconst 0, 1) := by decide +kernel
theorem dX6_fillWithZeros_2 : decode cX6_fillWithZeros 2 = .ok (.iload_n 1, 1) := by decide +kernel
theorem dX6_fillWithZeros_3 : decode cX6_fillWithZeros 3 = .ok (.aload_n 0, 1) := by decide +kernel
theorem dX6_fillWithZeros_4 : decode cX6_fillWithZeros 4 = .ok (.getfield 15, 3) := by decide +kernel
theorem dX6_fillWithZeros_7 : decode cX6_fillWithZeros 7 = .ok (.arraylength, 1) := by decide +kernel
theorem dX6_fillWithZeros_8 : decode cX6_fillWithZeros 8 = .ok (.invokestatic 29, 3) := by decide +kernel
theorem dX6_fillWithZeros_11 : decode cX6_fillWithZeros 11 = .ok (.invokestatic 9, 3) := by decide +kernel
theorem dX6_fillWithZeros_14 : decode cX6_fillWithZeros 14 = .ok (.putfield 21, 3) := by decide +kernel
theorem dX6_fillWithZeros_17 : decode cX6_fillWithZeros 17 = .ok (.aload_n 0, 1) := by decide +kernel
theorem dX6_fillWithZeros_18 : decode cX6_fillWithZeros 18 = .ok (.getfield 15, 3) := by decide +kernel
theorem dX6_fillWithZeros_21 : decode cX6_fillWithZeros 21 = .ok (.iconst 0, 1) := by decide +kernel
theorem dX6_fillWithZeros_22 : decode cX6_fillWithZeros 22 = .ok (.aload_n 0, 1) := by decide +kernel
theorem dX6_fillWithZeros_23 : decode cX6_fillWithZeros 23 = .ok (.getfield 21, 3) := by decide +kernel
theorem dX6_fillWithZeros_26 : decode cX6_fillWithZeros 26 = .ok (.iconst 0, 1) := by decide +kernel
theorem dX6_fillWithZeros_27 : decode cX6_fillWithZeros 27 = .ok (.invokestatic 32, 3) := by decide +kernel
theorem dX6_fillWithZeros_30 : decode cX6_fillWithZeros 30 = .ok (.return_, 1) := by decide +kernel
def fn_X6_fillWithZeros (N : Nat) (M : Mem) (a0 : Nat) (x1 : Int32) : Option (Unit × Mem) :=
  (mm_gR M a0 6 0).bind fun b1 =>
  (mm_aN M b1).bind fun v2 =>
  mm_lt (if v2 < x1 then v2 else x1) fun v3 =>
  mm_lt (if 0 < v3 then v3 else 0) fun v4 =>
  (mm_pV M a0 6 1 (.int v4)).bind fun M5 =>
  (mm_gR M5 a0 6 0).bind fun b6 =>
  (mm_gI M5 a0 6 1).bind fun v7 =>
  mm_b2 (fn_J7_fill_fda19 N M5 b6 0 v7 0) fun _ M8 =>
  some ((), M8)
set_option maxRecDepth 100000 in
set_option maxHeartbeats 4000000 in
theorem ct_X6_fillWithZeros {l : Launch} {ω : Wd} {k N : Nat} {M : Mem} {a0 : Nat} {x1 : Int32} {r : Unit} {M' : Mem} (h : fn_X6_fillWithZeros N M a0 x1 = some (r, M')) : CM l ω k yX6_fillWithZeros cX6_fillWithZeros 2 none 3 0 0 [.ref a0, .int x1] M none M' := by
  refine CM.of (by decide) (Nat.le_of_ble_eq_true rfl) fun Γ hl C hr hi => ?_
  subst hl
  unfold fn_X6_fillWithZeros at h
  refine jv_aload_n C dX6_fillWithZeros_0 rfl 0 rfl ?_
  refine jv_iconst (v := 0) C dX6_fillWithZeros_1 (by decide) ?_
  refine jv_iload_n C dX6_fillWithZeros_2 rfl 1 rfl ?_
  refine jv_aload_n C dX6_fillWithZeros_3 rfl 0 rfl ?_
  refine jv_getR C fa_X6_15 dX6_fillWithZeros_4 h (fun b1 h => ?_)
  refine jv_alen C dX6_fillWithZeros_7 h (fun v2 h => ?_)
  refine jv_mmin C gw_279 gw_280 gw_98 gw_281 (by decide) (by decide) (Nat.le_of_ble_eq_true rfl) dX6_fillWithZeros_8 ?_
  refine jv_nameI h (fun v3 h => ?_)
  refine jv_mmax C gw_185 gw_186 gw_98 gw_187 (by decide) (by decide) (Nat.le_of_ble_eq_true rfl) dX6_fillWithZeros_11 ?_
  refine jv_nameI h (fun v4 h => ?_)
  refine jv_putI C fp_X6_21 dX6_fillWithZeros_14 h (fun M5 h => ?_)
  refine jv_aload_n C dX6_fillWithZeros_17 rfl 0 rfl ?_
  refine jv_getR C fa_X6_15 dX6_fillWithZeros_18 h (fun b6 h => ?_)
  refine jv_iconst (v := 0) C dX6_fillWithZeros_21 (by decide) ?_
  refine jv_aload_n C dX6_fillWithZeros_22 rfl 0 rfl ?_
  refine jv_getI C fa_X6_21 dX6_fillWithZeros_23 h (fun v7 h => ?_)
  refine jv_iconst (v := 0) C dX6_fillWithZeros_26 (by decide) ?_
  refine jv_sV0 (As := [.ref b6, .int 0, .int v7, .int 0]) C lk_X6_32 dX6_fillWithZeros_27 rfl rfl (by decide) (by decide) (by decide) (Nat.le_of_ble_eq_true rfl) h (fun _ _ h => ct_J7_fill_fda19 h) (fun _ M8 h => ?_)
  exact jv_vret C hr dX6_fillWithZeros_30 h
theorem dX6_copyFrom_0 : decode cX6_copyFrom 0 = .ok (.aload_n 0, 1) := by decide +kernel
theorem dX6_copyFrom_1 : decode cX6_copyFrom 1 = .ok (.iconst 0, 1) := by decide +kernel
theorem dX6_copyFrom_2 : decode cX6_copyFrom 2 = .ok (.aload_n 1, 1) := by decide +kernel
theorem dX6_copyFrom_3 : decode cX6_copyFrom 3 = .ok (.getfield 21, 3) := by decide +kernel
theorem dX6_copyFrom_6 : decode cX6_copyFrom 6 = .ok (.aload_n 1, 1) := by decide +kernel
theorem dX6_copyFrom_7 : decode cX6_copyFrom 7 = .ok (.getfield 15, 3) := by decide +kernel
theorem dX6_copyFrom_10 : decode cX6_copyFrom 10 = .ok (.arraylength, 1) := by decide +kernel
theorem dX6_copyFrom_11 : decode cX6_copyFrom 11 = .ok (.aload_n 0, 1) := by decide +kernel
theorem dX6_copyFrom_12 : decode cX6_copyFrom 12 = .ok (.getfield 15, 3) := by decide +kernel
theorem dX6_copyFrom_15 : decode cX6_copyFrom 15 = .ok (.arraylength, 1) := by decide +kernel
theorem dX6_copyFrom_16 : decode cX6_copyFrom 16 = .ok (.invokestatic 29, 3) := by decide +kernel
theorem dX6_copyFrom_19 : decode cX6_copyFrom 19 = .ok (.invokestatic 29, 3) := by decide +kernel
theorem dX6_copyFrom_22 : decode cX6_copyFrom 22 = .ok (.invokestatic 9, 3) := by decide +kernel
theorem dX6_copyFrom_25 : decode cX6_copyFrom 25 = .ok (.putfield 21, 3) := by decide +kernel
theorem dX6_copyFrom_28 : decode cX6_copyFrom 28 = .ok (.aload_n 1, 1) := by decide +kernel
theorem dX6_copyFrom_29 : decode cX6_copyFrom 29 = .ok (.getfield 15, 3) := by decide +kernel
theorem dX6_copyFrom_32 : decode cX6_copyFrom 32 = .ok (.iconst 0, 1) := by decide +kernel
theorem dX6_copyFrom_33 : decode cX6_copyFrom 33 = .ok (.aload_n 0, 1) := by decide +kernel
theorem dX6_copyFrom_34 : decode cX6_copyFrom 34 = .ok (.getfield 15, 3) := by decide +kernel
theorem dX6_copyFrom_37 : decode cX6_copyFrom 37 = .ok (.iconst 0, 1) := by decide +kernel
theorem dX6_copyFrom_38 : decode cX6_copyFrom 38 = .ok (.aload_n 0, 1) := by decide +kernel
theorem dX6_copyFrom_39 : decode cX6_copyFrom 39 = .ok (.getfield 21, 3) := by decide +kernel
theorem dX6_copyFrom_42 : decode cX6_copyFrom 42 = .ok (.invokestatic 38, 3) := by decide +kernel
theorem dX6_copyFrom_45 : decode cX6_copyFrom 45 = .ok (.return_, 1) := by decide +kernel
def fn_X6_copyFrom (N : Nat) (M : Mem) (a0 : Nat) (a1 : Nat) : Option (Unit × Mem) :=
  (mm_gI M a1 6 1).bind fun v1 =>
  (mm_gR M a1 6 0).bind fun b2 =>
  (mm_aN M b2).bind fun v3 =>
  (mm_gR M a0 6 0).bind fun b4 =>
  (mm_aN M b4).bind fun v5 =>
  mm_lt (if v5 < v3 then v5 else v3) fun v6 =>
  mm_lt (if v6 < v1 then v6 else v1) fun v7 =>
  mm_lt (if 0 < v7 then v7 else 0) fun v8 =>
  (mm_pV M a0 6 1 (.int v8)).bind fun M9 =>
  (mm_gR M9 a1 6 0).bind fun b10 =>
  (mm_gR M9 a0 6 0).bind fun b11 =>
  (mm_gI M9 a0 6 1).bind fun v12 =>
  (mm_cp M9 b10 0 b11 0 v12).bind fun M13 =>
  some ((), M13)
set_option maxRecDepth 100000 in
set_option maxHeartbeats 4000000 in
theorem ct_X6_copyFrom {l : Launch} {ω : Wd} {k N : Nat} {M : Mem} {a0 : Nat} {a1 : Nat} {r : Unit} {M' : Mem} (h : fn_X6_copyFrom N M a0 a1 = some (r, M')) : CM l ω k yX6_copyFrom cX6_copyFrom 2 none 1 0 0 [.ref a0, .ref a1] M none M' := by
  refine CM.of (by decide) (Nat.le_of_ble_eq_true rfl) fun Γ hl C hr hi => ?_
  subst hl
  unfold fn_X6_copyFrom at h
  refine jv_aload_n C dX6_copyFrom_0 rfl 0 rfl ?_
  refine jv_iconst (v := 0) C dX6_copyFrom_1 (by decide) ?_
  refine jv_aload_n C dX6_copyFrom_2 rfl 1 rfl ?_
  refine jv_getI C fa_X6_21 dX6_copyFrom_3 h (fun v1 h => ?_)
  refine jv_aload_n C dX6_copyFrom_6 rfl 1 rfl ?_
  refine jv_getR C fa_X6_15 dX6_copyFrom_7 h (fun b2 h => ?_)
  refine jv_alen C dX6_copyFrom_10 h (fun v3 h => ?_)
  refine jv_aload_n C dX6_copyFrom_11 rfl 0 rfl ?_
  refine jv_getR C fa_X6_15 dX6_copyFrom_12 h (fun b4 h => ?_)
  refine jv_alen C dX6_copyFrom_15 h (fun v5 h => ?_)
  refine jv_mmin C gw_279 gw_280 gw_98 gw_281 (by decide) (by decide) (Nat.le_of_ble_eq_true rfl) dX6_copyFrom_16 ?_
  refine jv_nameI h (fun v6 h => ?_)
  refine jv_mmin C gw_279 gw_280 gw_98 gw_281 (by decide) (by decide) (Nat.le_of_ble_eq_true rfl) dX6_copyFrom_19 ?_
  refine jv_nameI h (fun v7 h => ?_)
  refine jv_mmax C gw_185 gw_186 gw_98 gw_187 (by decide) (by decide) (Nat.le_of_ble_eq_true rfl) dX6_copyFrom_22 ?_
  refine jv_nameI h (fun v8 h => ?_)
  refine jv_putI C fp_X6_21 dX6_copyFrom_25 h (fun M9 h => ?_)
  refine jv_aload_n C dX6_copyFrom_28 rfl 1 rfl ?_
  refine jv_getR C fa_X6_15 dX6_copyFrom_29 h (fun b10 h => ?_)
  refine jv_iconst (v := 0) C dX6_copyFrom_32 (by decide) ?_
  refine jv_aload_n C dX6_copyFrom_33 rfl 0 rfl ?_
  refine jv_getR C fa_X6_15 dX6_copyFrom_34 h (fun b11 h => ?_)
  refine jv_iconst (v := 0) C dX6_copyFrom_37 (by decide) ?_
  refine jv_aload_n C dX6_copyFrom_38 rfl 0 rfl ?_
  refine jv_getI C fa_X6_21 dX6_copyFrom_39 h (fun v12 h => ?_)
  refine jv_acopy C gw_1202 gw_403 gw_402 gw_110 dX6_copyFrom_42 (Nat.le_of_ble_eq_true rfl) h (fun M13 h => ?_)
  exact jv_vret C hr dX6_copyFrom_45 h
theorem dX6_at_0 : decode cX6_at 0 = .ok (.iload_n 1, 1) := by decide +kernel
theorem dX6_at_1 : decode cX6_at 1 = .ok (.ifCond .lt 29, 3) := by decide +kernel
theorem dX6_at_4 : decode cX6_at 4 = .ok (.iload_n 1, 1) := by decide +kernel
theorem dX6_at_5 : decode cX6_at 5 = .ok (.aload_n 0, 1) := by decide +kernel
theorem dX6_at_6 : decode cX6_at 6 = .ok (.getfield 21, 3) := by decide +kernel
theorem dX6_at_9 : decode cX6_at 9 = .ok (.if_icmp .ge 21, 3) := by decide +kernel
theorem dX6_at_12 : decode cX6_at 12 = .ok (.iload_n 1, 1) := by decide +kernel
theorem dX6_at_13 : decode cX6_at 13 = .ok (.aload_n 0, 1) := by decide +kernel
theorem dX6_at_14 : decode cX6_at 14 = .ok (.getfield 15, 3) := by decide +kernel
theorem dX6_at_17 : decode cX6_at 17 = .ok (.arraylength, 1) := by decide +kernel
theorem dX6_at_18 : decode cX6_at 18 = .ok (.if_icmp .ge 12, 3) := by decide +kernel
theorem dX6_at_21 : decode cX6_at 21 = .ok (.aload_n 0, 1) := by decide +kernel
theorem dX6_at_22 : decode cX6_at 22 = .ok (.getfield 15, 3) := by decide +kernel
theorem dX6_at_25 : decode cX6_at 25 = .ok (.iload_n 1, 1) := by decide +kernel
theorem dX6_at_26 : decode cX6_at 26 = .ok (.iaload, 1) := by decide +kernel
theorem dX6_at_27 : decode cX6_at 27 = .ok (.goto 4, 3) := by decide +kernel
theorem dX6_at_30 : decode cX6_at 30 = .ok (.iconst (-1), 1) := by decide +kernel
theorem dX6_at_31 : decode cX6_at 31 = .ok (.ireturn, 1) := by decide +kernel
def fn_X6_at (N : Nat) (M : Mem) (a0 : Nat) (x1 : Int32) : Option (Int32 × Mem) :=
  if x1 < 0 then
    some ((-1), M)
  else
    (mm_gI M a0 6 1).bind fun v1 =>
    if v1 ≤ x1 then
      some ((-1), M)
    else
      (mm_gR M a0 6 0).bind fun b2 =>
      (mm_aN M b2).bind fun v3 =>
      if v3 ≤ x1 then
        some ((-1), M)
      else
        (mm_gR M a0 6 0).bind fun b4 =>
        (mm_aI M b4 0 x1).bind fun v5 =>
        some (v5, M)
set_option maxRecDepth 100000 in
set_option maxHeartbeats 4000000 in
theorem ct_X6_at {l : Launch} {ω : Wd} {k N : Nat} {M : Mem} {a0 : Nat} {x1 : Int32} {r : Int32} {M' : Mem} (h : fn_X6_at N M a0 x1 = some (r, M')) : CM l ω k yX6_at cX6_at 2 (some .int) 0 0 0 [.ref a0, .int x1] M (some (.int r)) M' := by
  refine CM.of (by decide) (Nat.le_of_ble_eq_true rfl) fun Γ hl C hr hi => ?_
  subst hl
  unfold fn_X6_at at h
  refine jv_iload_n C dX6_at_0 rfl 1 rfl ?_
  refine jv_if_lt (tgt := 30) C dX6_at_1 (by decide) h (fun h => ?_) (fun h => ?_)
  · refine jv_iconst (v := (-1)) C dX6_at_30 (by decide) ?_
    exact jv_iret C hr dX6_at_31 h
  · refine jv_iload_n C dX6_at_4 rfl 1 rfl ?_
    refine jv_aload_n C dX6_at_5 rfl 0 rfl ?_
    refine jv_getI C fa_X6_21 dX6_at_6 h (fun v1 h => ?_)
    refine jv_icmp_ge (tgt := 30) C dX6_at_9 (by decide) h (fun h => ?_) (fun h => ?_)
    · refine jv_iconst (v := (-1)) C dX6_at_30 (by decide) ?_
      exact jv_iret C hr dX6_at_31 h
    · refine jv_iload_n C dX6_at_12 rfl 1 rfl ?_
      refine jv_aload_n C dX6_at_13 rfl 0 rfl ?_
      refine jv_getR C fa_X6_15 dX6_at_14 h (fun b2 h => ?_)
      refine jv_alen C dX6_at_17 h (fun v3 h => ?_)
      refine jv_icmp_ge (tgt := 30) C dX6_at_18 (by decide) h (fun h => ?_) (fun h => ?_)
      · refine jv_iconst (v := (-1)) C dX6_at_30 (by decide) ?_
        exact jv_iret C hr dX6_at_31 h
      · refine jv_aload_n C dX6_at_21 rfl 0 rfl ?_
        refine jv_getR C fa_X6_15 dX6_at_22 h (fun b4 h => ?_)
        refine jv_iload_n C dX6_at_25 rfl 1 rfl ?_
        refine jv_iald C dX6_at_26 h (fun v5 h => ?_)
        refine jv_goto (tgt := 31) C dX6_at_27 (by decide) ?_
        exact jv_iret C hr dX6_at_31 h
theorem dX6_isFull_0 : decode cX6_isFull 0 = .ok (.aload_n 0, 1) := by decide +kernel
theorem dX6_isFull_1 : decode cX6_isFull 1 = .ok (.getfield 21, 3) := by decide +kernel
theorem dX6_isFull_4 : decode cX6_isFull 4 = .ok (.aload_n 0, 1) := by decide +kernel
theorem dX6_isFull_5 : decode cX6_isFull 5 = .ok (.getfield 15, 3) := by decide +kernel
theorem dX6_isFull_8 : decode cX6_isFull 8 = .ok (.arraylength, 1) := by decide +kernel
theorem dX6_isFull_9 : decode cX6_isFull 9 = .ok (.if_icmp .lt 7, 3) := by decide +kernel
theorem dX6_isFull_12 : decode cX6_isFull 12 = .ok (.iconst 1, 1) := by decide +kernel
theorem dX6_isFull_13 : decode cX6_isFull 13 = .ok (.goto 4, 3) := by decide +kernel
theorem dX6_isFull_16 : decode cX6_isFull 16 = .ok (.iconst 0, 1) := by decide +kernel
theorem dX6_isFull_17 : decode cX6_isFull 17 = .ok (.ireturn, 1) := by decide +kernel
def fn_X6_isFull (N : Nat) (M : Mem) (a0 : Nat) : Option (Int32 × Mem) :=
  (mm_gI M a0 6 1).bind fun v1 =>
  (mm_gR M a0 6 0).bind fun b2 =>
  (mm_aN M b2).bind fun v3 =>
  if v1 < v3 then
    some (0, M)
  else
    some (1, M)
set_option maxRecDepth 100000 in
set_option maxHeartbeats 4000000 in
theorem ct_X6_isFull {l : Launch} {ω : Wd} {k N : Nat} {M : Mem} {a0 : Nat} {r : Int32} {M' : Mem} (h : fn_X6_isFull N M a0 = some (r, M')) : CM l ω k yX6_isFull cX6_isFull 1 (some .boolean) 0 0 0 [.ref a0] M (some (.int r)) M' := by
  refine CM.of (by decide) (Nat.le_of_ble_eq_true rfl) fun Γ hl C hr hi => ?_
  subst hl
  unfold fn_X6_isFull at h
  refine jv_aload_n C dX6_isFull_0 rfl 0 rfl ?_
  refine jv_getI C fa_X6_21 dX6_isFull_1 h (fun v1 h => ?_)
  refine jv_aload_n C dX6_isFull_4 rfl 0 rfl ?_
  refine jv_getR C fa_X6_15 dX6_isFull_5 h (fun b2 h => ?_)
  refine jv_alen C dX6_isFull_8 h (fun v3 h => ?_)
  refine jv_icmp_lt (tgt := 16) C dX6_isFull_9 (by decide) h (fun h => ?_) (fun h => ?_)
  · refine jv_iconst (v := 0) C dX6_isFull_16 (by decide) ?_
    exact jv_zretc C hr (Or.inl rfl) dX6_isFull_17 h
  · refine jv_iconst (v := 1) C dX6_isFull_12 (by decide) ?_
    refine jv_goto (tgt := 17) C dX6_isFull_13 (by decide) ?_
    exact jv_zretc C hr (Or.inr rfl) dX6_isFull_17 h
theorem dX6_add_0 : decode cX6_add 0 = .ok (.aload_n 0, 1) := by decide +kernel
theorem dX6_add_1 : decode cX6_add 1 = .ok (.getfield 21, 3) := by decide +kernel
theorem dX6_add_4 : decode cX6_add 4 = .ok (.ifCond .lt 35, 3) := by decide +kernel
theorem dX6_add_7 : decode cX6_add 7 = .ok (.aload_n 0, 1) := by decide +kernel
theorem dX6_add_8 : decode cX6_add 8 = .ok (.getfield 21, 3) := by decide +kernel
theorem dX6_add_11 : decode cX6_add 11 = .ok (.aload_n 0, 1) := by decide +kernel
theorem dX6_add_12 : decode cX6_add 12 = .ok (.getfield 15, 3) := by decide +kernel
theorem dX6_add_15 : decode cX6_add 15 = .ok (.arraylength, 1) := by decide +kernel
theorem dX6_add_16 : decode cX6_add 16 = .ok (.if_icmp .ge 23, 3) := by decide +kernel
theorem dX6_add_19 : decode cX6_add 19 = .ok (.aload_n 0, 1) := by decide +kernel
theorem dX6_add_20 : decode cX6_add 20 = .ok (.getfield 15, 3) := by decide +kernel
theorem dX6_add_23 : decode cX6_add 23 = .ok (.aload_n 0, 1) := by decide +kernel
theorem dX6_add_24 : decode cX6_add 24 = .ok (.getfield 21, 3) := by decide +kernel
theorem dX6_add_27 : decode cX6_add 27 = .ok (.iload_n 1, 1) := by decide +kernel
theorem dX6_add_28 : decode cX6_add 28 = .ok (.iastore, 1) := by decide +kernel
theorem dX6_add_29 : decode cX6_add 29 = .ok (.aload_n 0, 1) := by decide +kernel
theorem dX6_add_30 : decode cX6_add 30 = .ok (.dup, 1) := by decide +kernel
theorem dX6_add_31 : decode cX6_add 31 = .ok (.getfield 21, 3) := by decide +kernel
theorem dX6_add_34 : decode cX6_add 34 = .ok (.iconst 1, 1) := by decide +kernel
theorem dX6_add_35 : decode cX6_add 35 = .ok (.iadd, 1) := by decide +kernel
theorem dX6_add_36 : decode cX6_add 36 = .ok (.putfield 21, 3) := by decide +kernel
theorem dX6_add_39 : decode cX6_add 39 = .ok (.return_, 1) := by decide +kernel
def fn_X6_add (N : Nat) (M : Mem) (a0 : Nat) (x1 : Int32) : Option (Unit × Mem) :=
  (mm_gI M a0 6 1).bind fun v1 =>
  if v1 < 0 then
    some ((), M)
  else
    (mm_gI M a0 6 1).bind fun v2 =>
    (mm_gR M a0 6 0).bind fun b3 =>
    (mm_aN M b3).bind fun v4 =>
    if v4 ≤ v2 then
      some ((), M)
    else
      (mm_gR M a0 6 0).bind fun b5 =>
      (mm_gI M a0 6 1).bind fun v6 =>
      (mm_sI M b5 0 v6 x1).bind fun M7 =>
      (mm_gI M7 a0 6 1).bind fun v8 =>
      (mm_pV M7 a0 6 1 (.int (v8 + 1))).bind fun M9 =>
      some ((), M9)
set_option maxRecDepth 100000 in
set_option maxHeartbeats 4000000 in
theorem ct_X6_add {l : Launch} {ω : Wd} {k N : Nat} {M : Mem} {a0 : Nat} {x1 : Int32} {r : Unit} {M' : Mem} (h : fn_X6_add N M a0 x1 = some (r, M')) : CM l ω k yX6_add cX6_add 2 none 0 0 0 [.ref a0, .int x1] M none M' := by
  refine CM.of (by decide) (Nat.le_of_ble_eq_true rfl) fun Γ hl C hr hi => ?_
  subst hl
  unfold fn_X6_add at h
  refine jv_aload_n C dX6_add_0 rfl 0 rfl ?_
  refine jv_getI C fa_X6_21 dX6_add_1 h (fun v1 h => ?_)
  refine jv_if_lt (tgt := 39) C dX6_add_4 (by decide) h (fun h => ?_) (fun h => ?_)
  · exact jv_vret C hr dX6_add_39 h
  · refine jv_aload_n C dX6_add_7 rfl 0 rfl ?_
    refine jv_getI C fa_X6_21 dX6_add_8 h (fun v2 h => ?_)
    refine jv_aload_n C dX6_add_11 rfl 0 rfl ?_
    refine jv_getR C fa_X6_15 dX6_add_12 h (fun b3 h => ?_)
    refine jv_alen C dX6_add_15 h (fun v4 h => ?_)
    refine jv_icmp_ge (tgt := 39) C dX6_add_16 (by decide) h (fun h => ?_) (fun h => ?_)
    · exact jv_vret C hr dX6_add_39 h
    · refine jv_aload_n C dX6_add_19 rfl 0 rfl ?_
      refine jv_getR C fa_X6_15 dX6_add_20 h (fun b5 h => ?_)
      refine jv_aload_n C dX6_add_23 rfl 0 rfl ?_
      refine jv_getI C fa_X6_21 dX6_add_24 h (fun v6 h => ?_)
      refine jv_iload_n C dX6_add_27 rfl 1 rfl ?_
      refine jv_iast C dX6_add_28 h (fun M7 h => ?_)
      refine jv_aload_n C dX6_add_29 rfl 0 rfl ?_
      refine jv_dup C dX6_add_30 rfl ?_
      refine jv_getI C fa_X6_21 dX6_add_31 h (fun v8 h => ?_)
      refine jv_iconst (v := 1) C dX6_add_34 (by decide) ?_
      refine jv_iadd C dX6_add_35 ?_
      refine jv_putI C fp_X6_21 dX6_add_36 h (fun M9 h => ?_)
      exact jv_vret C hr dX6_add_39 h
theorem dX6_has_0 : decode cX6_has 0 = .ok (.iload_n 1, 1) := by decide +kernel
theorem dX6_has_1 : decode cX6_has 1 = .ok (.ifCond .lt 24, 3) := by decide +kernel
theorem dX6_has_4 : decode cX6_has 4 = .ok (.iload_n 1, 1) := by decide +kernel
theorem dX6_has_5 : decode cX6_has 5 = .ok (.aload_n 0, 1) := by decide +kernel
theorem dX6_has_6 : decode cX6_has 6 = .ok (.getfield 21, 3) := by decide +kernel
theorem dX6_has_9 : decode cX6_has 9 = .ok (.if_icmp .ge 16, 3) := by decide +kernel
theorem dX6_has_12 : decode cX6_has 12 = .ok (.iload_n 1, 1) := by decide +kernel
theorem dX6_has_13 : decode cX6_has 13 = .ok (.aload_n 0, 1) := by decide +kernel
theorem dX6_has_14 : decode cX6_has 14 = .ok (.getfield 15, 3) := by decide +kernel
theorem dX6_has_17 : decode cX6_has 17 = .ok (.arraylength, 1) := by decide +kernel
theorem dX6_has_18 : decode cX6_has 18 = .ok (.if_icmp .ge 7, 3) := by decide +kernel
theorem dX6_has_21 : decode cX6_has 21 = .ok (.iconst 1, 1) := by decide +kernel
theorem dX6_has_22 : decode cX6_has 22 = .ok (.goto 4, 3) := by decide +kernel
theorem dX6_has_25 : decode cX6_has 25 = .ok (.iconst 0, 1) := by decide +kernel
theorem dX6_has_26 : decode cX6_has 26 = .ok (.ireturn, 1) := by decide +kernel
def fn_X6_has (N : Nat) (M : Mem) (a0 : Nat) (x1 : Int32) : Option (Int32 × Mem) :=
  if x1 < 0 then
    some (0, M)
  else
    (mm_gI M a0 6 1).bind fun v1 =>
    if v1 ≤ x1 then
      some (0, M)
    else
      (mm_gR M a0 6 0).bind fun b2 =>
      (mm_aN M b2).bind fun v3 =>
      if v3 ≤ x1 then
        some (0, M)
      else
        some (1, M)
set_option maxRecDepth 100000 in
set_option maxHeartbeats 4000000 in
theorem ct_X6_has {l : Launch} {ω : Wd} {k N : Nat} {M : Mem} {a0 : Nat} {x1 : Int32} {r : Int32} {M' : Mem} (h : fn_X6_has N M a0 x1 = some (r, M')) : CM l ω k yX6_has cX6_has 2 (some .boolean) 0 0 0 [.ref a0, .int x1] M (some (.int r)) M' := by
  refine CM.of (by decide) (Nat.le_of_ble_eq_true rfl) fun Γ hl C hr hi => ?_
  subst hl
  unfold fn_X6_has at h
  refine jv_iload_n C dX6_has_0 rfl 1 rfl ?_
  refine jv_if_lt (tgt := 25) C dX6_has_1 (by decide) h (fun h => ?_) (fun h => ?_)
  · refine jv_iconst (v := 0) C dX6_has_25 (by decide) ?_
    exact jv_zretc C hr (Or.inl rfl) dX6_has_26 h
  · refine jv_iload_n C dX6_has_4 rfl 1 rfl ?_
    refine jv_aload_n C dX6_has_5 rfl 0 rfl ?_
    refine jv_getI C fa_X6_21 dX6_has_6 h (fun v1 h => ?_)
    refine jv_icmp_ge (tgt := 25) C dX6_has_9 (by decide) h (fun h => ?_) (fun h => ?_)
    · refine jv_iconst (v := 0) C dX6_has_25 (by decide) ?_
      exact jv_zretc C hr (Or.inl rfl) dX6_has_26 h
    · refine jv_iload_n C dX6_has_12 rfl 1 rfl ?_
      refine jv_aload_n C dX6_has_13 rfl 0 rfl ?_
      refine jv_getR C fa_X6_15 dX6_has_14 h (fun b2 h => ?_)
      refine jv_alen C dX6_has_17 h (fun v3 h => ?_)
      refine jv_icmp_ge (tgt := 25) C dX6_has_18 (by decide) h (fun h => ?_) (fun h => ?_)
      · refine jv_iconst (v := 0) C dX6_has_25 (by decide) ?_
        exact jv_zretc C hr (Or.inl rfl) dX6_has_26 h
      · refine jv_iconst (v := 1) C dX6_has_21 (by decide) ?_
        refine jv_goto (tgt := 26) C dX6_has_22 (by decide) ?_
        exact jv_zretc C hr (Or.inr rfl) dX6_has_26 h
theorem dX6_increase_0 : decode cX6_increase 0 = .ok (.aload_n 0, 1) := by decide +kernel
theorem dX6_increase_1 : decode cX6_increase 1 = .ok (.iload_n 1, 1) := by decide +kernel
theorem dX6_increase_2 : decode cX6_increase 2 = .ok (.invokevirtual 25, 3) := by decide +kernel
theorem dX6_increase_5 : decode cX6_increase 5 = .ok (.ifCond .eq 13, 3) := by decide +kernel
theorem dX6_increase_8 : decode cX6_increase 8 = .ok (.aload_n 0, 1) := by decide +kernel
theorem dX6_increase_9 : decode cX6_increase 9 = .ok (.getfield 15, 3) := by decide +kernel
theorem dX6_increase_12 : decode cX6_increase 12 = .ok (.iload_n 1, 1) := by decide +kernel
theorem dX6_increase_13 : decode cX6_increase 13 = .ok (.dup2, 1) := by decide +kernel
theorem dX6_increase_14 : decode cX6_increase 14 = .ok (.iaload, 1) := by decide +kernel
theorem dX6_increase_15 : decode cX6_increase 15 = .ok (.iload_n 2, 1) := by decide +kernel
theorem dX6_increase_16 : decode cX6_increase 16 = .ok (.iadd, 1) := by decide +kernel
theorem dX6_increase_17 : decode cX6_increase 17 = .ok (.iastore, 1) := by decide +kernel
theorem dX6_increase_18 : decode cX6_increase 18 = .ok (.return_, 1) := by decide +kernel
def fn_X6_increase (N : Nat) (M : Mem) (a0 : Nat) (x1 : Int32) (x2 : Int32) : Option (Unit × Mem) :=
  (mm_ck M a0 6).bind fun _ => mm_b2 (fn_X6_has N M a0 x1) fun v2 M1 =>
  if v2 = 0 then
    some ((), M1)
  else
    (mm_gR M1 a0 6 0).bind fun b3 =>
    (mm_aI M1 b3 0 x1).bind fun v4 =>
    (mm_sI M1 b3 0 x1 (v4 + x2)).bind fun M5 =>
    some ((), M5)
set_option maxRecDepth 100000 in
set_option maxHeartbeats 4000000 in
theorem ct_X6_increase {l : Launch} {ω : Wd} {k N : Nat} {M : Mem} {a0 : Nat} {x1 : Int32} {x2 : Int32} {r : Unit} {M' : Mem} (h : fn_X6_increase N M a0 x1 x2 = some (r, M')) : CM l ω k yX6_increase cX6_increase 3 none 1 0 0 [.ref a0, .int x1, .int x2] M none M' := by
  refine CM.of (by decide) (Nat.le_of_ble_eq_true rfl) fun Γ hl C hr hi => ?_
  subst hl
  unfold fn_X6_increase at h
  refine jv_aload_n C dX6_increase_0 rfl 0 rfl ?_
  refine jv_iload_n C dX6_increase_1 rfl 1 rfl ?_
  refine jv_vI0 (As := [.int x1]) C lk_X6_25 rfl dX6_increase_2 rfl rfl (by decide) (by decide) (by decide) (Nat.le_of_ble_eq_true rfl) h (fun _ _ h => ct_X6_has h) (fun v2 M1 h => ?_)
  refine jv_if_eq (tgt := 18) C dX6_increase_5 (by decide) h (fun h => ?_) (fun h => ?_)
  · exact jv_vret C hr dX6_increase_18 h
  · refine jv_aload_n C dX6_increase_8 rfl 0 rfl ?_
    refine jv_getR C fa_X6_15 dX6_increase_9 h (fun b3 h => ?_)
    refine jv_iload_n C dX6_increase_12 rfl 1 rfl ?_
    refine jv_dup2 C dX6_increase_13 rfl rfl ?_
    refine jv_iald C dX6_increase_14 h (fun v4 h => ?_)
    refine jv_iload_n C dX6_increase_15 rfl 2 rfl ?_
    refine jv_iadd C dX6_increase_16 ?_
    refine jv_iast C dX6_increase_17 h (fun M5 h => ?_)
    exact jv_vret C hr dX6_increase_18 h
theorem dX6_put_0 : decode cX6_put 0 = .ok (.aload_n 0, 1) := by decide +kernel
theorem dX6_put_1 : decode cX6_put 1 = .ok (.iload_n 1, 1) := by decide +kernel
theorem dX6_put_2 : decode cX6_put 2 = .ok (.invokevirtual 25, 3) := by decide +kernel
theorem dX6_put_5 : decode cX6_put 5 = .ok (.ifCond .eq 10, 3) := by decide +kernel
theorem dX6_put_8 : decode cX6_put 8 = .ok (.aload_n 0, 1) := by decide +kernel
theorem dX6_put_9 : decode cX6_put 9 = .ok (.getfield 15, 3) := by decide +kernel
theorem dX6_put_12 : decode cX6_put 12 = .ok (.iload_n 1, 1) := by decide +kernel
theorem dX6_put_13 : decode cX6_put 13 = .ok (.iload_n 2, 1) := by decide +kernel
theorem dX6_put_14 : decode cX6_put 14 = .ok (.iastore, 1) := by decide +kernel
theorem dX6_put_15 : decode cX6_put 15 = .ok (.return_, 1) := by decide +kernel
def fn_X6_put (N : Nat) (M : Mem) (a0 : Nat) (x1 : Int32) (x2 : Int32) : Option (Unit × Mem) :=
  (mm_ck M a0 6).bind fun _ => mm_b2 (fn_X6_has N M a0 x1) fun v2 M1 =>
  if v2 = 0 then
    some ((), M1)
  else
    (mm_gR M1 a0 6 0).bind fun b3 =>
    (mm_sI M1 b3 0 x1 x2).bind fun M4 =>
    some ((), M4)
set_option maxRecDepth 100000 in
set_option maxHeartbeats 4000000 in
theorem ct_X6_put {l : Launch} {ω : Wd} {k N : Nat} {M : Mem} {a0 : Nat} {x1 : Int32} {x2 : Int32} {r : Unit} {M' : Mem} (h : fn_X6_put N M a0 x1 x2 = some (r, M')) : CM l ω k yX6_put cX6_put 3 none 1 0 0 [.ref a0, .int x1, .int x2] M none M' := by
  refine CM.of (by decide) (Nat.le_of_ble_eq_true rfl) fun Γ hl C hr hi => ?_
  subst hl
  unfold fn_X6_put at h
  refine jv_aload_n C dX6_put_0 rfl 0 rfl ?_
  refine jv_iload_n C dX6_put_1 rfl 1 rfl ?_
  refine jv_vI0 (As := [.int x1]) C lk_X6_25 rfl dX6_put_2 rfl rfl (by decide) (by decide) (by decide) (Nat.le_of_ble_eq_true rfl) h (fun _ _ h => ct_X6_has h) (fun v2 M1 h => ?_)
  refine jv_if_eq (tgt := 15) C dX6_put_5 (by decide) h (fun h => ?_) (fun h => ?_)
  · exact jv_vret C hr dX6_put_15 h
  · refine jv_aload_n C dX6_put_8 rfl 0 rfl ?_
    refine jv_getR C fa_X6_15 dX6_put_9 h (fun b3 h => ?_)
    refine jv_iload_n C dX6_put_12 rfl 1 rfl ?_
    refine jv_iload_n C dX6_put_13 rfl 2 rfl ?_
    refine jv_iast C dX6_put_14 h (fun M4 h => ?_)
    exact jv_vret C hr dX6_put_15 h
theorem dX6_removeAt_0 : decode cX6_removeAt 0 = .ok (.aload_n 0, 1) := by decide +kernel
theorem dX6_removeAt_1 : decode cX6_removeAt 1 = .ok (.iload_n 1, 1) := by decide +kernel
theorem dX6_removeAt_2 : decode cX6_removeAt 2 = .ok (.invokevirtual 25, 3) := by decide +kernel
theorem dX6_removeAt_5 : decode cX6_removeAt 5 = .ok (.ifCond .ne 5, 3) := by decide +kernel
theorem dX6_removeAt_8 : decode cX6_removeAt 8 = .ok (.iconst (-1), 1) := by decide +kernel
theorem dX6_removeAt_9 : decode cX6_removeAt 9 = .ok (.ireturn, 1) := by decide +kernel
theorem dX6_removeAt_10 : decode cX6_removeAt 10 = .ok (.aload_n 0, 1) := by decide +kernel
theorem dX6_removeAt_11 : decode cX6_removeAt 11 = .ok (.getfield 15, 3) := by decide +kernel
theorem dX6_removeAt_14 : decode cX6_removeAt 14 = .ok (.iload_n 1, 1) := by decide +kernel
theorem dX6_removeAt_15 : decode cX6_removeAt 15 = .ok (.iaload, 1) := by decide +kernel
theorem dX6_removeAt_16 : decode cX6_removeAt 16 = .ok (.istore_n 2, 1) := by decide +kernel
theorem dX6_removeAt_17 : decode cX6_removeAt 17 = .ok (.iload_n 1, 1) := by decide +kernel
theorem dX6_removeAt_18 : decode cX6_removeAt 18 = .ok (.iconst 1, 1) := by decide +kernel
theorem dX6_removeAt_19 : decode cX6_removeAt 19 = .ok (.iadd, 1) := by decide +kernel
theorem dX6_removeAt_20 : decode cX6_removeAt 20 = .ok (.istore_n 3, 1) := by decide +kernel
theorem dX6_removeAt_21 : decode cX6_removeAt 21 = .ok (.iload_n 3, 1) := by decide +kernel
theorem dX6_removeAt_22 : decode cX6_removeAt 22 = .ok (.aload_n 0, 1) := by decide +kernel
theorem dX6_removeAt_23 : decode cX6_removeAt 23 = .ok (.getfield 21, 3) := by decide +kernel
theorem dX6_removeAt_26 : decode cX6_removeAt 26 = .ok (.if_icmp .ge 32, 3) := by decide +kernel
theorem dX6_removeAt_29 : decode cX6_removeAt 29 = .ok (.iload_n 3, 1) := by decide +kernel
theorem dX6_removeAt_30 : decode cX6_removeAt 30 = .ok (.aload_n 0, 1) := by decide +kernel
theorem dX6_removeAt_31 : decode cX6_removeAt 31 = .ok (.getfield 15, 3) := by decide +kernel
theorem dX6_removeAt_34 : decode cX6_removeAt 34 = .ok (.arraylength, 1) := by decide +kernel
theorem dX6_removeAt_35 : decode cX6_removeAt 35 = .ok (.if_icmp .ge 23, 3) := by decide +kernel
theorem dX6_removeAt_38 : decode cX6_removeAt 38 = .ok (.aload_n 0, 1) := by decide +kernel
theorem dX6_removeAt_39 : decode cX6_removeAt 39 = .ok (.getfield 15, 3) := by decide +kernel
theorem dX6_removeAt_42 : decode cX6_removeAt 42 = .ok (.iload_n 3, 1) := by decide +kernel
theorem dX6_removeAt_43 : decode cX6_removeAt 43 = .ok (.iconst 1, 1) := by decide +kernel
theorem dX6_removeAt_44 : decode cX6_removeAt 44 = .ok (.isub, 1) := by decide +kernel
theorem dX6_removeAt_45 : decode cX6_removeAt 45 = .ok (.aload_n 0, 1) := by decide +kernel
theorem dX6_removeAt_46 : decode cX6_removeAt 46 = .ok (.getfield 15, 3) := by decide +kernel
theorem dX6_removeAt_49 : decode cX6_removeAt 49 = .ok (.iload_n 3, 1) := by decide +kernel
theorem dX6_removeAt_50 : decode cX6_removeAt 50 = .ok (.iaload, 1) := by decide +kernel
theorem dX6_removeAt_51 : decode cX6_removeAt 51 = .ok (.iastore, 1) := by decide +kernel
theorem dX6_removeAt_52 : decode cX6_removeAt 52 = .ok (.iinc 3 1, 3) := by decide +kernel
theorem dX6_removeAt_55 : decode cX6_removeAt 55 = .ok (.goto (-34), 3) := by decide +kernel
theorem dX6_removeAt_58 : decode cX6_removeAt 58 = .ok (.aload_n 0, 1) := by decide +kernel
theorem dX6_removeAt_59 : decode cX6_removeAt 59 = .ok (.dup, 1) := by decide +kernel
theorem dX6_removeAt_60 : decode cX6_removeAt 60 = .ok (.getfield 21, 3) := by decide +kernel
theorem dX6_removeAt_63 : decode cX6_removeAt 63 = .ok (.iconst 1, 1) := by decide +kernel
theorem dX6_removeAt_64 : decode cX6_removeAt 64 = .ok (.isub, 1) := by decide +kernel
theorem dX6_removeAt_65 : decode cX6_removeAt 65 = .ok (.putfield 21, 3) := by decide +kernel
theorem dX6_removeAt_68 : decode cX6_removeAt 68 = .ok (.iload_n 2, 1) := by decide +kernel
theorem dX6_removeAt_69 : decode cX6_removeAt 69 = .ok (.ireturn, 1) := by decide +kernel
def fn_X6_removeAt_58 (N : Nat) (M : Mem) (a0 : Nat) (x2 : Int32) : Option (Int32 × Mem) :=
  (mm_gI M a0 6 1).bind fun v1 =>
  (mm_pV M a0 6 1 (.int (v1 - 1))).bind fun M2 =>
  some (x2, M2)
set_option maxRecDepth 100000 in
set_option maxHeartbeats 4000000 in
theorem bk_X6_removeAt_58 {Γ : Gm} {ω : Wd} {k N : Nat} {r : Int32} {M' : Mem} (C : Cx Γ cX6_removeAt 4 RX6 ω 1 0 0) (hr : Γ.meth.sig.returnType = (some .int)) (M : Mem) (a0 : Nat) (x2 : Int32) (h : fn_X6_removeAt_58 N M a0 x2 = some (r, M')) : JJ Γ (QF Γ ω k 0 0 (some (.int r)) M') 4 ω k M 0 0 58 [(0, .ref a0), (2, .int x2)] [] := by
  unfold fn_X6_removeAt_58 at h
  refine jv_aload_n C dX6_removeAt_58 rfl 0 rfl ?_
  refine jv_dup C dX6_removeAt_59 rfl ?_
  refine jv_getI C fa_X6_21 dX6_removeAt_60 h (fun v1 h => ?_)
  refine jv_iconst (v := 1) C dX6_removeAt_63 (by decide) ?_
  refine jv_isub C dX6_removeAt_64 ?_
  refine jv_putI C fp_X6_21 dX6_removeAt_65 h (fun M2 h => ?_)
  refine jv_iload_n C dX6_removeAt_68 rfl 1 rfl ?_
  exact jv_iret C hr dX6_removeAt_69 h
def fn_X6_removeAt_21 (N : Nat) : Nat → Mem → Nat → Int32 → Int32 → Option (Int32 × Mem)
  | 0, _, _, _, _ => none
  | n + 1, M, a0, x2, x3 =>
    (mm_gI M a0 6 1).bind fun v1 =>
    if v1 ≤ x3 then
      fn_X6_removeAt_58 N M a0 x2
    else
      (mm_gR M a0 6 0).bind fun b2 =>
      (mm_aN M b2).bind fun v3 =>
      if v3 ≤ x3 then
        fn_X6_removeAt_58 N M a0 x2
      else
        (mm_gR M a0 6 0).bind fun b4 =>
        (mm_gR M a0 6 0).bind fun b5 =>
        (mm_aI M b5 0 x3).bind fun v6 =>
        (mm_sI M b4 0 (x3 - 1) v6).bind fun M7 =>
        fn_X6_removeAt_21 N n M7 a0 x2 ((x3 + 1))
set_option maxRecDepth 100000 in
set_option maxHeartbeats 4000000 in
theorem bk_X6_removeAt_21 {Γ : Gm} {ω : Wd} {k N : Nat} {r : Int32} {M' : Mem} (C : Cx Γ cX6_removeAt 4 RX6 ω 1 0 0) (hr : Γ.meth.sig.returnType = (some .int)) : ∀ (n : Nat) (M : Mem) (a0 : Nat) (x2 : Int32) (x3 : Int32), fn_X6_removeAt_21 N n M a0 x2 x3 = some (r, M') → JJ Γ (QF Γ ω k 0 0 (some (.int r)) M') 4 ω k M 0 0 21 [(0, .ref a0), (2, .int x2), (3, .int x3)] [] := by
  intro n
  induction n with
  | zero => intro M a0 x2 x3 h; exact jv_no h
  | succ n ih =>
    intro M a0 x2 x3 h
    rw [fn_X6_removeAt_21.eq_2] at h
    refine jv_iload_n C dX6_removeAt_21 rfl 2 rfl ?_
    refine jv_aload_n C dX6_removeAt_22 rfl 0 rfl ?_
    refine jv_getI C fa_X6_21 dX6_removeAt_23 h (fun v1 h => ?_)
    refine jv_icmp_ge (tgt := 58) C dX6_removeAt_26 (by decide) h (fun h => ?_) (fun h => ?_)
    · refine jv_sub [0, 1] rfl ?_
      exact bk_X6_removeAt_58 C hr _ _ _ h
    · refine jv_iload_n C dX6_removeAt_29 rfl 2 rfl ?_
      refine jv_aload_n C dX6_removeAt_30 rfl 0 rfl ?_
      refine jv_getR C fa_X6_15 dX6_removeAt_31 h (fun b2 h => ?_)
      refine jv_alen C dX6_removeAt_34 h (fun v3 h => ?_)
      refine jv_icmp_ge (tgt := 58) C dX6_removeAt_35 (by decide) h (fun h => ?_) (fun h => ?_)
      · refine jv_sub [0, 1] rfl ?_
        exact bk_X6_removeAt_58 C hr _ _ _ h
      · refine jv_aload_n C dX6_removeAt_38 rfl 0 rfl ?_
        refine jv_getR C fa_X6_15 dX6_removeAt_39 h (fun b4 h => ?_)
        refine jv_iload_n C dX6_removeAt_42 rfl 2 rfl ?_
        refine jv_iconst (v := 1) C dX6_removeAt_43 (by decide) ?_
        refine jv_isub C dX6_removeAt_44 ?_
        refine jv_aload_n C dX6_removeAt_45 rfl 0 rfl ?_
        refine jv_getR C fa_X6_15 dX6_removeAt_46 h (fun b5 h => ?_)
        refine jv_iload_n C dX6_removeAt_49 rfl 2 rfl ?_
        refine jv_iald C dX6_removeAt_50 h (fun v6 h => ?_)
        refine jv_iast C dX6_removeAt_51 h (fun M7 h => ?_)
        refine jv_iinc (v := 1) (lv' := [(3, .int (x3 + 1)), (0, .ref a0), (2, .int x2)]) C dX6_removeAt_52 2 rfl (by decide) (by decide) rfl ?_
        refine jv_goto (tgt := 21) C dX6_removeAt_55 (by decide) ?_
        refine jv_sub [1, 2, 0] rfl ?_
        exact ih _ _ _ _ h
def fn_X6_removeAt (N : Nat) (M : Mem) (a0 : Nat) (x1 : Int32) : Option (Int32 × Mem) :=
  (mm_ck M a0 6).bind fun _ => mm_b2 (fn_X6_has N M a0 x1) fun v2 M1 =>
  if v2 = 0 then
    some ((-1), M1)
  else
    (mm_gR M1 a0 6 0).bind fun b3 =>
    (mm_aI M1 b3 0 x1).bind fun v4 =>
    fn_X6_removeAt_21 N N M1 a0 v4 ((x1 + 1))
set_option maxRecDepth 100000 in
set_option maxHeartbeats 4000000 in
theorem ct_X6_removeAt {l : Launch} {ω : Wd} {k N : Nat} {M : Mem} {a0 : Nat} {x1 : Int32} {r : Int32} {M' : Mem} (h : fn_X6_removeAt N M a0 x1 = some (r, M')) : CM l ω k yX6_removeAt cX6_removeAt 4 (some .int) 1 0 0 [.ref a0, .int x1] M (some (.int r)) M' := by
  refine CM.of (by decide) (Nat.le_of_ble_eq_true rfl) fun Γ hl C hr hi => ?_
  subst hl
  unfold fn_X6_removeAt at h
  refine jv_aload_n C dX6_removeAt_0 rfl 0 rfl ?_
  refine jv_iload_n C dX6_removeAt_1 rfl 1 rfl ?_
  refine jv_vI0 (As := [.int x1]) C lk_X6_25 rfl dX6_removeAt_2 rfl rfl (by decide) (by decide) (by decide) (Nat.le_of_ble_eq_true rfl) h (fun _ _ h => ct_X6_has h) (fun v2 M1 h => ?_)
  refine jv_if_ne (tgt := 10) C dX6_removeAt_5 (by decide) h (fun h => ?_) (fun h => ?_)
  · refine jv_aload_n C dX6_removeAt_10 rfl 0 rfl ?_
    refine jv_getR C fa_X6_15 dX6_removeAt_11 h (fun b3 h => ?_)
    refine jv_iload_n C dX6_removeAt_14 rfl 1 rfl ?_
    refine jv_iald C dX6_removeAt_15 h (fun v4 h => ?_)
    refine jv_istore_n (lv' := [(2, .int v4), (0, .ref a0), (1, .int x1)]) C dX6_removeAt_16 rfl (by decide) rfl ?_
    refine jv_iload_n C dX6_removeAt_17 rfl 2 rfl ?_
    refine jv_iconst (v := 1) C dX6_removeAt_18 (by decide) ?_
    refine jv_iadd C dX6_removeAt_19 ?_
    refine jv_istore_n (lv' := [(3, .int (x1 + 1)), (2, .int v4), (0, .ref a0), (1, .int x1)]) C dX6_removeAt_20 rfl (by decide) rfl ?_
    refine jv_sub [2, 1, 0] rfl ?_
    exact bk_X6_removeAt_21 C hr _ _ _ _ _ h
  · refine jv_iconst (v := (-1)) C dX6_removeAt_8 (by decide) ?_
    exact jv_iret C hr dX6_removeAt_9 h
