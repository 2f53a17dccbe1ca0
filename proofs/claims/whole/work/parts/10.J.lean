theorem dJ0_coder_7d493_0 : decode cJ0_coder_7d493 0 = .ok (.getstatic 38, 3) := by decide +kernel
theorem dJ0_coder_7d493_3 : decode cJ0_coder_7d493 3 = .ok (.ifCond .eq 10, 3) := by decide +kernel
theorem dJ0_coder_7d493_6 : decode cJ0_coder_7d493 6 = .ok (.aload_n 0, 1) := by decide +kernel
theorem dJ0_coder_7d493_7 : decode cJ0_coder_7d493 7 = .ok (.getfield 15, 3) := by decide +kernel
theorem dJ0_coder_7d493_10 : decode cJ0_coder_7d493 10 = .ok (.goto 4, 3) := by decide +kernel
theorem dJ0_coder_7d493_13 : decode cJ0_coder_7d493 13 = .ok (.iconst 1, 1) := by decide +kernel
theorem dJ0_coder_7d493_14 : decode cJ0_coder_7d493 14 = .ok (.ireturn, 1) := by decide +kernel
def fn_J0_coder_7d493 (N : Nat) (M : Mem) (s0 : UInt32) : Option (Int32 × Mem) :=
  if (1 : Int32) = 0 then
    some (1, M)
  else
    (st_ck s0).bind fun _ =>
    some (0, M)
set_option maxRecDepth 100000 in
set_option maxHeartbeats 4000000 in
theorem ct_J0_coder_7d493 {l : Launch} {ω : Wd} {k N : Nat} {M : Mem} {s0 : UInt32} {r : Int32} {M' : Mem} (h : fn_J0_coder_7d493 N M s0 = some (r, M')) : CM l ω k yJ0_coder_7d493 cJ0_coder_7d493 1 (some .byte) 0 0 0 [.float s0] M (some (.int r)) M' := by
  refine CM.ofF (by decide +kernel) (Nat.le_of_ble_eq_true rfl) fun Γ hl C hr hi => ?_
  subst hl
  unfold fn_J0_coder_7d493 at h
  refine jv_gsZ C gw_443 dJ0_coder_7d493_0 ?_
  refine jv_if_eq (tgt := 13) C dJ0_coder_7d493_3 (by decide) h (fun h => ?_) (fun h => ?_)
  · refine jv_iconst (v := 1) C dJ0_coder_7d493_13 (by decide) ?_
    exact jv_nret C hr rfl dJ0_coder_7d493_14 h
  · refine jv_sload_n C dJ0_coder_7d493_6 rfl 0 rfl ?_
    refine jv_gSc C gw_581 dJ0_coder_7d493_7 h (fun _ h => ?_)
    refine jv_goto (tgt := 14) C dJ0_coder_7d493_10 (by decide) ?_
    exact jv_nret C hr rfl dJ0_coder_7d493_14 h
theorem dJ0_length_8abf5_0 : decode cJ0_length_8abf5 0 = .ok (.aload_n 0, 1) := by decide +kernel
theorem dJ0_length_8abf5_1 : decode cJ0_length_8abf5 1 = .ok (.getfield 9, 3) := by decide +kernel
theorem dJ0_length_8abf5_4 : decode cJ0_length_8abf5 4 = .ok (.arraylength, 1) := by decide +kernel
theorem dJ0_length_8abf5_5 : decode cJ0_length_8abf5 5 = .ok (.aload_n 0, 1) := by decide +kernel
theorem dJ0_length_8abf5_6 : decode cJ0_length_8abf5 6 = .ok (.invokevirtual 335, 3) := by decide +kernel
theorem dJ0_length_8abf5_9 : decode cJ0_length_8abf5 9 = .ok (.ishr, 1) := by decide +kernel
theorem dJ0_length_8abf5_10 : decode cJ0_length_8abf5 10 = .ok (.ireturn, 1) := by decide +kernel
def fn_J0_length_8abf5 (N : Nat) (M : Mem) (s0 : UInt32) : Option (Int32 × Mem) :=
  (st_val s0).bind fun t1 =>
  (st_ln t1).bind fun v2 =>
  (st_ck s0).bind fun _ => mm_b2 (fn_J0_coder_7d493 N M s0) fun v4 M3 =>
  some ((v2 >>> (v4 &&& 31)), M3)
set_option maxRecDepth 100000 in
set_option maxHeartbeats 4000000 in
theorem ct_J0_length_8abf5 {l : Launch} {ω : Wd} {k N : Nat} {M : Mem} {s0 : UInt32} {r : Int32} {M' : Mem} (h : fn_J0_length_8abf5 N M s0 = some (r, M')) : CM l ω k yJ0_length_8abf5 cJ0_length_8abf5 1 (some .int) 1 0 0 [.float s0] M (some (.int r)) M' := by
  refine CM.ofF (by decide +kernel) (Nat.le_of_ble_eq_true rfl) fun Γ hl C hr hi => ?_
  subst hl
  unfold fn_J0_length_8abf5 at h
  refine jv_sload_n C dJ0_length_8abf5_0 rfl 0 rfl ?_
  refine jv_gSv C gw_580 dJ0_length_8abf5_1 h (fun t1 h => ?_)
  refine jv_tlen C dJ0_length_8abf5_4 h (fun v2 h => ?_)
  refine jv_sload_n C dJ0_length_8abf5_5 rfl 0 rfl ?_
  refine jv_wI0 (As := []) C lk_J0_335 rfl dJ0_length_8abf5_6 rfl rfl (by decide) (by decide) (by decide) (Nat.le_of_ble_eq_true rfl) h (fun _ _ h => ct_J0_coder_7d493 h) (fun v4 M3 h => ?_)
  refine jv_ishr C dJ0_length_8abf5_9 ?_
  exact jv_iret C hr dJ0_length_8abf5_10 h
theorem dJ0_isLatin1_aae02_0 : decode cJ0_isLatin1_aae02 0 = .ok (.getstatic 38, 3) := by decide +kernel
theorem dJ0_isLatin1_aae02_3 : decode cJ0_isLatin1_aae02 3 = .ok (.ifCond .eq 14, 3) := by decide +kernel
theorem dJ0_isLatin1_aae02_6 : decode cJ0_isLatin1_aae02 6 = .ok (.aload_n 0, 1) := by decide +kernel
theorem dJ0_isLatin1_aae02_7 : decode cJ0_isLatin1_aae02 7 = .ok (.getfield 15, 3) := by decide +kernel
theorem dJ0_isLatin1_aae02_10 : decode cJ0_isLatin1_aae02 10 = .ok (.ifCond .ne 7, 3) := by decide +kernel
theorem dJ0_isLatin1_aae02_13 : decode cJ0_isLatin1_aae02 13 = .ok (.iconst 1, 1) := by decide +kernel
theorem dJ0_isLatin1_aae02_14 : decode cJ0_isLatin1_aae02 14 = .ok (.goto 4, 3) := by decide +kernel
theorem dJ0_isLatin1_aae02_17 : decode cJ0_isLatin1_aae02 17 = .ok (.iconst 0, 1) := by decide +kernel
theorem dJ0_isLatin1_aae02_18 : decode cJ0_isLatin1_aae02 18 = .ok (.ireturn, 1) := by decide +kernel
def fn_J0_isLatin1_aae02 (N : Nat) (M : Mem) (s0 : UInt32) : Option (Int32 × Mem) :=
  if (1 : Int32) = 0 then
    some (0, M)
  else
    (st_ck s0).bind fun _ =>
    if (0 : Int32) = 0 then
      some (1, M)
    else
      some (0, M)
set_option maxRecDepth 100000 in
set_option maxHeartbeats 4000000 in
theorem ct_J0_isLatin1_aae02 {l : Launch} {ω : Wd} {k N : Nat} {M : Mem} {s0 : UInt32} {r : Int32} {M' : Mem} (h : fn_J0_isLatin1_aae02 N M s0 = some (r, M')) : CM l ω k yJ0_isLatin1_aae02 cJ0_isLatin1_aae02 1 (some .boolean) 0 0 0 [.float s0] M (some (.int r)) M' := by
  refine CM.ofF (by decide +kernel) (Nat.le_of_ble_eq_true rfl) fun Γ hl C hr hi => ?_
  subst hl
  unfold fn_J0_isLatin1_aae02 at h
  refine jv_gsZ C gw_443 dJ0_isLatin1_aae02_0 ?_
  refine jv_if_eq (tgt := 17) C dJ0_isLatin1_aae02_3 (by decide) h (fun h => ?_) (fun h => ?_)
  · refine jv_iconst (v := 0) C dJ0_isLatin1_aae02_17 (by decide) ?_
    exact jv_zretc C hr (Or.inl rfl) dJ0_isLatin1_aae02_18 h
  · refine jv_sload_n C dJ0_isLatin1_aae02_6 rfl 0 rfl ?_
    refine jv_gSc C gw_581 dJ0_isLatin1_aae02_7 h (fun _ h => ?_)
    refine jv_if_ne (tgt := 17) C dJ0_isLatin1_aae02_10 (by decide) h (fun h => ?_) (fun h => ?_)
    · refine jv_iconst (v := 0) C dJ0_isLatin1_aae02_17 (by decide) ?_
      exact jv_zretc C hr (Or.inl rfl) dJ0_isLatin1_aae02_18 h
    · refine jv_iconst (v := 1) C dJ0_isLatin1_aae02_13 (by decide) ?_
      refine jv_goto (tgt := 18) C dJ0_isLatin1_aae02_14 (by decide) ?_
      exact jv_zretc C hr (Or.inr rfl) dJ0_isLatin1_aae02_18 h
theorem dJ3_checkIndex_8e157_0 : decode cJ3_checkIndex_8e157 0 = .ok (.iload_n 0, 1) := by decide +kernel
theorem dJ3_checkIndex_8e157_1 : decode cJ3_checkIndex_8e157 1 = .ok (.ifCond .lt 8, 3) := by decide +kernel
theorem dJ3_checkIndex_8e157_4 : decode cJ3_checkIndex_8e157 4 = .ok (.iload_n 0, 1) := by decide +kernel
theorem dJ3_checkIndex_8e157_5 : decode cJ3_checkIndex_8e157 5 = .ok (.iload_n 1, 1) := by decide +kernel
theorem dJ3_checkIndex_8e157_6 : decode cJ3_checkIndex_8e157 6 = .ok (.if_icmp .lt 10, 3) := by decide +kernel
theorem dJ3_checkIndex_8e157_9 : decode cJ3_checkIndex_8e157 9 = .ok (.aload_n 2, 1) := by decide +kernel
theorem dJ3_checkIndex_8e157_10 : decode cJ3_checkIndex_8e157 10 = .ok (.iload_n 0, 1) := by decide +kernel
theorem dJ3_checkIndex_8e157_11 : decode cJ3_checkIndex_8e157 11 = .ok (.iload_n 1, 1) := by decide +kernel
theorem dJ3_checkIndex_8e157_12 : decode cJ3_checkIndex_8e157 12 = .ok (.invokestatic 95, 3) := by decide +kernel
theorem dJ3_checkIndex_8e157_15 : decode cJ3_checkIndex_8e157 15 = .ok (.athrow, 1) := by decide +kernel
theorem dJ3_checkIndex_8e157_16 : decode cJ3_checkIndex_8e157 16 = .ok (.iload_n 0, 1) := by decide +kernel
theorem dJ3_checkIndex_8e157_17 : decode cJ3_checkIndex_8e157 17 = .ok (.ireturn, 1) := by decide +kernel
def fn_J3_checkIndex_8e157 (N : Nat) (M : Mem) (x0 : Int32) (x1 : Int32) (s2 : UInt32) : Option (Int32 × Mem) :=
  if x0 < 0 then
    none
  else
    if x0 < x1 then
      some (x0, M)
    else
      none
set_option maxRecDepth 100000 in
set_option maxHeartbeats 4000000 in
theorem ct_J3_checkIndex_8e157 {l : Launch} {ω : Wd} {k N : Nat} {M : Mem} {x0 : Int32} {x1 : Int32} {s2 : UInt32} {r : Int32} {M' : Mem} (h : fn_J3_checkIndex_8e157 N M x0 x1 s2 = some (r, M')) : CM l ω k yJ3_checkIndex_8e157 cJ3_checkIndex_8e157 3 (some .int) 0 0 0 [.int x0, .int x1, .float s2] M (some (.int r)) M' := by
  refine CM.ofF (by decide +kernel) (Nat.le_of_ble_eq_true rfl) fun Γ hl C hr hi => ?_
  subst hl
  unfold fn_J3_checkIndex_8e157 at h
  refine jv_iload_n C dJ3_checkIndex_8e157_0 rfl 0 rfl ?_
  refine jv_if_lt (tgt := 9) C dJ3_checkIndex_8e157_1 (by decide) h (fun h => ?_) (fun h => ?_)
  · refine jv_sload_n C dJ3_checkIndex_8e157_9 rfl 2 rfl ?_
    refine jv_iload_n C dJ3_checkIndex_8e157_10 rfl 0 rfl ?_
    refine jv_iload_n C dJ3_checkIndex_8e157_11 rfl 1 rfl ?_
    exact jv_no h
  · refine jv_iload_n C dJ3_checkIndex_8e157_4 rfl 0 rfl ?_
    refine jv_iload_n C dJ3_checkIndex_8e157_5 rfl 1 rfl ?_
    refine jv_icmp_lt (tgt := 16) C dJ3_checkIndex_8e157_6 (by decide) h (fun h => ?_) (fun h => ?_)
    · refine jv_iload_n C dJ3_checkIndex_8e157_16 rfl 0 rfl ?_
      exact jv_iret C hr dJ3_checkIndex_8e157_17 h
    · refine jv_sload_n C dJ3_checkIndex_8e157_9 rfl 2 rfl ?_
      refine jv_iload_n C dJ3_checkIndex_8e157_10 rfl 0 rfl ?_
      refine jv_iload_n C dJ3_checkIndex_8e157_11 rfl 1 rfl ?_
      exact jv_no h
theorem dJ0_checkIndex_df160_0 : decode cJ0_checkIndex_df160 0 = .ok (.iload_n 0, 1) := by decide +kernel
theorem dJ0_checkIndex_df160_1 : decode cJ0_checkIndex_df160 1 = .ok (.iload_n 1, 1) := by decide +kernel
theorem dJ0_checkIndex_df160_2 : decode cJ0_checkIndex_df160 2 = .ok (.getstatic 1053, 3) := by decide +kernel
theorem dJ0_checkIndex_df160_5 : decode cJ0_checkIndex_df160 5 = .ok (.invokestatic 1059, 3) := by decide +kernel
theorem dJ0_checkIndex_df160_8 : decode cJ0_checkIndex_df160 8 = .ok (.pop, 1) := by decide +kernel
theorem dJ0_checkIndex_df160_9 : decode cJ0_checkIndex_df160 9 = .ok (.return_, 1) := by decide +kernel
def fn_J0_checkIndex_df160 (N : Nat) (M : Mem) (x0 : Int32) (x1 : Int32) : Option (Unit × Mem) :=
  mm_b2 (fn_J3_checkIndex_8e157 N M x0 x1 200) fun v2 M1 =>
  some ((), M1)
set_option maxRecDepth 100000 in
set_option maxHeartbeats 4000000 in
theorem ct_J0_checkIndex_df160 {l : Launch} {ω : Wd} {k N : Nat} {M : Mem} {x0 : Int32} {x1 : Int32} {r : Unit} {M' : Mem} (h : fn_J0_checkIndex_df160 N M x0 x1 = some (r, M')) : CM l ω k yJ0_checkIndex_df160 cJ0_checkIndex_df160 2 none 1 0 0 [.int x0, .int x1] M none M' := by
  refine CM.ofF (by decide +kernel) (Nat.le_of_ble_eq_true rfl) fun Γ hl C hr hi => ?_
  subst hl
  unfold fn_J0_checkIndex_df160 at h
  refine jv_iload_n C dJ0_checkIndex_df160_0 rfl 0 rfl ?_
  refine jv_iload_n C dJ0_checkIndex_df160_1 rfl 1 rfl ?_
  refine jv_gsF C gw_421 dJ0_checkIndex_df160_2 ?_
  refine jv_sI0 (As := [.int x0, .int x1, .float 200]) C lk_J0_1059 dJ0_checkIndex_df160_5 rfl rfl (by decide) (by decide) (by decide) (Nat.le_of_ble_eq_true rfl) h (fun _ _ h => ct_J3_checkIndex_8e157 h) (fun v2 M1 h => ?_)
  refine jv_pop C dJ0_checkIndex_df160_8 rfl ?_
  exact jv_vret C hr dJ0_checkIndex_df160_9 h
theorem dJ1_charAt_3b067_0 : decode cJ1_charAt_3b067 0 = .ok (.iload_n 1, 1) := by decide +kernel
theorem dJ1_charAt_3b067_1 : decode cJ1_charAt_3b067 1 = .ok (.aload_n 0, 1) := by decide +kernel
theorem dJ1_charAt_3b067_2 : decode cJ1_charAt_3b067 2 = .ok (.arraylength, 1) := by decide +kernel
theorem dJ1_charAt_3b067_3 : decode cJ1_charAt_3b067 3 = .ok (.invokestatic 9, 3) := by decide +kernel
theorem dJ1_charAt_3b067_6 : decode cJ1_charAt_3b067 6 = .ok (.aload_n 0, 1) := by decide +kernel
theorem dJ1_charAt_3b067_7 : decode cJ1_charAt_3b067 7 = .ok (.iload_n 1, 1) := by decide +kernel
theorem dJ1_charAt_3b067_8 : decode cJ1_charAt_3b067 8 = .ok (.baload, 1) := by decide +kernel
theorem dJ1_charAt_3b067_9 : decode cJ1_charAt_3b067 9 = .ok (.sipush 255, 3) := by decide +kernel
theorem dJ1_charAt_3b067_12 : decode cJ1_charAt_3b067 12 = .ok (.iand, 1) := by decide +kernel
theorem dJ1_charAt_3b067_13 : decode cJ1_charAt_3b067 13 = .ok (.i2c, 1) := by decide +kernel
theorem dJ1_charAt_3b067_14 : decode cJ1_charAt_3b067 14 = .ok (.ireturn, 1) := by decide +kernel
def fn_J1_charAt_3b067 (N : Nat) (M : Mem) (s0 : UInt32) (x1 : Int32) : Option (Int32 × Mem) :=
  (st_ln s0).bind fun v1 =>
  mm_b2 (fn_J0_checkIndex_df160 N M x1 v1) fun _ M2 =>
  (st_by s0 x1).bind fun v3 =>
  some ((UInt32.toInt32 (Int32.toUInt32 (v3 &&& 255) % 65536)), M2)
set_option maxRecDepth 100000 in
set_option maxHeartbeats 4000000 in
theorem ct_J1_charAt_3b067 {l : Launch} {ω : Wd} {k N : Nat} {M : Mem} {s0 : UInt32} {x1 : Int32} {r : Int32} {M' : Mem} (h : fn_J1_charAt_3b067 N M s0 x1 = some (r, M')) : CM l ω k yJ1_charAt_3b067 cJ1_charAt_3b067 2 (some .char) 2 0 0 [.float s0, .int x1] M (some (.int r)) M' := by
  refine CM.ofF (by decide +kernel) (Nat.le_of_ble_eq_true rfl) fun Γ hl C hr hi => ?_
  subst hl
  unfold fn_J1_charAt_3b067 at h
  refine jv_iload_n C dJ1_charAt_3b067_0 rfl 1 rfl ?_
  refine jv_sload_n C dJ1_charAt_3b067_1 rfl 0 rfl ?_
  refine jv_tlen C dJ1_charAt_3b067_2 h (fun v1 h => ?_)
  refine jv_sV0 (As := [.int x1, .int v1]) C lk_J1_9 dJ1_charAt_3b067_3 rfl rfl (by decide) (by decide) (by decide) (Nat.le_of_ble_eq_true rfl) h (fun _ _ h => ct_J0_checkIndex_df160 h) (fun _ M2 h => ?_)
  refine jv_sload_n C dJ1_charAt_3b067_6 rfl 0 rfl ?_
  refine jv_iload_n C dJ1_charAt_3b067_7 rfl 1 rfl ?_
  refine jv_tald C dJ1_charAt_3b067_8 h (fun v3 h => ?_)
  refine jv_sipush (v := 255) C dJ1_charAt_3b067_9 (by decide) ?_
  refine jv_iand C dJ1_charAt_3b067_12 ?_
  refine jv_i2c C dJ1_charAt_3b067_13 ?_
  exact jv_nret C hr (pk_nc _) dJ1_charAt_3b067_14 h
theorem dJ0_charAt_5068e_0 : decode cJ0_charAt_5068e 0 = .ok (.aload_n 0, 1) := by decide +kernel
theorem dJ0_charAt_5068e_1 : decode cJ0_charAt_5068e 1 = .ok (.invokevirtual 492, 3) := by decide +kernel
theorem dJ0_charAt_5068e_4 : decode cJ0_charAt_5068e 4 = .ok (.ifCond .eq 12, 3) := by decide +kernel
theorem dJ0_charAt_5068e_7 : decode cJ0_charAt_5068e 7 = .ok (.aload_n 0, 1) := by decide +kernel
theorem dJ0_charAt_5068e_8 : decode cJ0_charAt_5068e 8 = .ok (.getfield 9, 3) := by decide +kernel
theorem dJ0_charAt_5068e_11 : decode cJ0_charAt_5068e 11 = .ok (.iload_n 1, 1) := by decide +kernel
theorem dJ0_charAt_5068e_12 : decode cJ0_charAt_5068e 12 = .ok (.invokestatic 495, 3) := by decide +kernel
theorem dJ0_charAt_5068e_15 : decode cJ0_charAt_5068e 15 = .ok (.ireturn, 1) := by decide +kernel
theorem dJ0_charAt_5068e_16 : decode cJ0_charAt_5068e 16 = .ok (.aload_n 0, 1) := by decide +kernel
theorem dJ0_charAt_5068e_17 : decode cJ0_charAt_5068e 17 = .ok (.getfield 9, 3) := by decide +kernel
theorem dJ0_charAt_5068e_20 : decode cJ0_charAt_5068e 20 = .ok (.iload_n 1, 1) := by decide +kernel
theorem dJ0_charAt_5068e_21 : decode cJ0_charAt_5068e 21 = .ok (.invokestatic 498, 3) := by decide +kernel
theorem dJ0_charAt_5068e_24 : decode cJ0_charAt_5068e 24 = .ok (.ireturn, 1) := by decide +kernel
def fn_J0_charAt_5068e (N : Nat) (M : Mem) (s0 : UInt32) (x1 : Int32) : Option (Int32 × Mem) :=
  (st_ck s0).bind fun _ => mm_b2 (fn_J0_isLatin1_aae02 N M s0) fun v2 M1 =>
  if v2 = 0 then
    (st_val s0).bind fun t3 =>
    none
  else
    (st_val s0).bind fun t4 =>
    mm_b2 (fn_J1_charAt_3b067 N M1 t4 x1) fun v6 M5 =>
    if 0 ≤ v6 ∧ v6 < 65536 then some (v6, M5) else none
set_option maxRecDepth 100000 in
set_option maxHeartbeats 4000000 in
theorem ct_J0_charAt_5068e {l : Launch} {ω : Wd} {k N : Nat} {M : Mem} {s0 : UInt32} {x1 : Int32} {r : Int32} {M' : Mem} (h : fn_J0_charAt_5068e N M s0 x1 = some (r, M')) : CM l ω k yJ0_charAt_5068e cJ0_charAt_5068e 2 (some .char) 3 0 0 [.float s0, .int x1] M (some (.int r)) M' := by
  refine CM.ofF (by decide +kernel) (Nat.le_of_ble_eq_true rfl) fun Γ hl C hr hi => ?_
  subst hl
  unfold fn_J0_charAt_5068e at h
  refine jv_sload_n C dJ0_charAt_5068e_0 rfl 0 rfl ?_
  refine jv_wI0 (As := []) C lk_J0_492 rfl dJ0_charAt_5068e_1 rfl rfl (by decide) (by decide) (by decide) (Nat.le_of_ble_eq_true rfl) h (fun _ _ h => ct_J0_isLatin1_aae02 h) (fun v2 M1 h => ?_)
  refine jv_if_eq (tgt := 16) C dJ0_charAt_5068e_4 (by decide) h (fun h => ?_) (fun h => ?_)
  · refine jv_sload_n C dJ0_charAt_5068e_16 rfl 0 rfl ?_
    refine jv_gSv C gw_580 dJ0_charAt_5068e_17 h (fun t3 h => ?_)
    refine jv_iload_n C dJ0_charAt_5068e_20 rfl 1 rfl ?_
    exact jv_no h
  · refine jv_sload_n C dJ0_charAt_5068e_7 rfl 0 rfl ?_
    refine jv_gSv C gw_580 dJ0_charAt_5068e_8 h (fun t4 h => ?_)
    refine jv_iload_n C dJ0_charAt_5068e_11 rfl 1 rfl ?_
    refine jv_sI0 (As := [.float t4, .int x1]) C lk_J0_495 dJ0_charAt_5068e_12 rfl rfl (by decide) (by decide) (by decide) (Nat.le_of_ble_eq_true rfl) h (fun _ _ h => ct_J1_charAt_3b067 h) (fun v6 M5 h => ?_)
    exact jv_cret C hr dJ0_charAt_5068e_15 h
theorem dJ7_rangeCheck_23922_0 : decode cJ7_rangeCheck_23922 0 = .ok (.iload_n 1, 1) := by decide +kernel
theorem dJ7_rangeCheck_23922_1 : decode cJ7_rangeCheck_23922 1 = .ok (.iload_n 2, 1) := by decide +kernel
theorem dJ7_rangeCheck_23922_2 : decode cJ7_rangeCheck_23922 2 = .ok (.if_icmp .le 44, 3) := by decide +kernel
theorem dJ7_rangeCheck_23922_5 : decode cJ7_rangeCheck_23922 5 = .ok (.new 43, 3) := by decide +kernel
theorem dJ7_rangeCheck_23922_8 : decode cJ7_rangeCheck_23922 8 = .ok (.dup, 1) := by decide +kernel
theorem dJ7_rangeCheck_23922_9 : decode cJ7_rangeCheck_23922 9 = .ok (.new 45, 3) := by decide +kernel
theorem dJ7_rangeCheck_23922_12 : decode cJ7_rangeCheck_23922 12 = .ok (.dup, 1) := by decide +kernel
theorem dJ7_rangeCheck_23922_13 : decode cJ7_rangeCheck_23922 13 = .ok (.invokespecial 47, 3) := by decide +kernel
theorem dJ7_rangeCheck_23922_16 : decode cJ7_rangeCheck_23922 16 = .ok (.ldc 48, 2) := by decide +kernel
theorem dJ7_rangeCheck_23922_18 : decode cJ7_rangeCheck_23922 18 = .ok (.invokevirtual 50, 3) := by decide +kernel
theorem dJ7_rangeCheck_23922_21 : decode cJ7_rangeCheck_23922 21 = .ok (.iload_n 1, 1) := by decide +kernel
theorem dJ7_rangeCheck_23922_22 : decode cJ7_rangeCheck_23922 22 = .ok (.invokevirtual 54, 3) := by decide +kernel
theorem dJ7_rangeCheck_23922_25 : decode cJ7_rangeCheck_23922 25 = .ok (.ldc 57, 2) := by decide +kernel
theorem dJ7_rangeCheck_23922_27 : decode cJ7_rangeCheck_23922 27 = .ok (.invokevirtual 50, 3) := by decide +kernel
theorem dJ7_rangeCheck_23922_30 : decode cJ7_rangeCheck_23922 30 = .ok (.iload_n 2, 1) := by decide +kernel
theorem dJ7_rangeCheck_23922_31 : decode cJ7_rangeCheck_23922 31 = .ok (.invokevirtual 54, 3) := by decide +kernel
theorem dJ7_rangeCheck_23922_34 : decode cJ7_rangeCheck_23922 34 = .ok (.ldc 59, 2) := by decide +kernel
theorem dJ7_rangeCheck_23922_36 : decode cJ7_rangeCheck_23922 36 = .ok (.invokevirtual 50, 3) := by decide +kernel
theorem dJ7_rangeCheck_23922_39 : decode cJ7_rangeCheck_23922 39 = .ok (.invokevirtual 61, 3) := by decide +kernel
theorem dJ7_rangeCheck_23922_42 : decode cJ7_rangeCheck_23922 42 = .ok (.invokespecial 65, 3) := by decide +kernel
theorem dJ7_rangeCheck_23922_45 : decode cJ7_rangeCheck_23922 45 = .ok (.athrow, 1) := by decide +kernel
theorem dJ7_rangeCheck_23922_46 : decode cJ7_rangeCheck_23922 46 = .ok (.iload_n 1, 1) := by decide +kernel
theorem dJ7_rangeCheck_23922_47 : decode cJ7_rangeCheck_23922 47 = .ok (.ifCond .ge 12, 3) := by decide +kernel
theorem dJ7_rangeCheck_23922_50 : decode cJ7_rangeCheck_23922 50 = .ok (.new 68, 3) := by decide +kernel
theorem dJ7_rangeCheck_23922_53 : decode cJ7_rangeCheck_23922 53 = .ok (.dup, 1) := by decide +kernel
theorem dJ7_rangeCheck_23922_54 : decode cJ7_rangeCheck_23922 54 = .ok (.iload_n 1, 1) := by decide +kernel
theorem dJ7_rangeCheck_23922_55 : decode cJ7_rangeCheck_23922 55 = .ok (.invokespecial 70, 3) := by decide +kernel
theorem dJ7_rangeCheck_23922_58 : decode cJ7_rangeCheck_23922 58 = .ok (.athrow, 1) := by decide +kernel
theorem dJ7_rangeCheck_23922_59 : decode cJ7_rangeCheck_23922 59 = .ok (.iload_n 2, 1) := by decide +kernel
theorem dJ7_rangeCheck_23922_60 : decode cJ7_rangeCheck_23922 60 = .ok (.iload_n 0, 1) := by decide +kernel
theorem dJ7_rangeCheck_23922_61 : decode cJ7_rangeCheck_23922 61 = .ok (.if_icmp .le 12, 3) := by decide +kernel
theorem dJ7_rangeCheck_23922_64 : decode cJ7_rangeCheck_23922 64 = .ok (.new 68, 3) := by decide +kernel
theorem dJ7_rangeCheck_23922_67 : decode cJ7_rangeCheck_23922 67 = .ok (.dup, 1) := by decide +kernel
theorem dJ7_rangeCheck_23922_68 : decode cJ7_rangeCheck_23922 68 = .ok (.iload_n 2, 1) := by decide +kernel
theorem dJ7_rangeCheck_23922_69 : decode cJ7_rangeCheck_23922 69 = .ok (.invokespecial 70, 3) := by decide +kernel
theorem dJ7_rangeCheck_23922_72 : decode cJ7_rangeCheck_23922 72 = .ok (.athrow, 1) := by decide +kernel
theorem dJ7_rangeCheck_23922_73 : decode cJ7_rangeCheck_23922 73 = .ok (.return_, 1) := by decide +kernel
def fn_J7_rangeCheck_23922 (N : Nat) (M : Mem) (x0 : Int32) (x1 : Int32) (x2 : Int32) : Option (Unit × Mem) :=
  if x1 ≤ x2 then
    if 0 ≤ x1 then
      if x2 ≤ x0 then
        some ((), M)
      else
        none
    else
      none
  else
    none
set_option maxRecDepth 100000 in
set_option maxHeartbeats 4000000 in
theorem ct_J7_rangeCheck_23922 {l : Launch} {ω : Wd} {k N : Nat} {M : Mem} {x0 : Int32} {x1 : Int32} {x2 : Int32} {r : Unit} {M' : Mem} (h : fn_J7_rangeCheck_23922 N M x0 x1 x2 = some (r, M')) : CM l ω k yJ7_rangeCheck_23922 cJ7_rangeCheck_23922 3 none 1 0 0 [.int x0, .int x1, .int x2] M none M' := by
  refine CM.ofF (by decide +kernel) (Nat.le_of_ble_eq_true rfl) fun Γ hl C hr hi => ?_
  subst hl
  unfold fn_J7_rangeCheck_23922 at h
  refine jv_iload_n C dJ7_rangeCheck_23922_0 rfl 1 rfl ?_
  refine jv_iload_n C dJ7_rangeCheck_23922_1 rfl 2 rfl ?_
  refine jv_icmp_le (tgt := 46) C dJ7_rangeCheck_23922_2 (by decide) h (fun h => ?_) (fun h => ?_)
  · refine jv_iload_n C dJ7_rangeCheck_23922_46 rfl 1 rfl ?_
    refine jv_if_ge (tgt := 59) C dJ7_rangeCheck_23922_47 (by decide) h (fun h => ?_) (fun h => ?_)
    · refine jv_iload_n C dJ7_rangeCheck_23922_59 rfl 2 rfl ?_
      refine jv_iload_n C dJ7_rangeCheck_23922_60 rfl 0 rfl ?_
      refine jv_icmp_le (tgt := 73) C dJ7_rangeCheck_23922_61 (by decide) h (fun h => ?_) (fun h => ?_)
      · exact jv_vret C hr dJ7_rangeCheck_23922_73 h
      · exact jv_no h
    · exact jv_no h
  · exact jv_no h
theorem dJ7_fill_fda19_0 : decode cJ7_fill_fda19 0 = .ok (.aload_n 0, 1) := by decide +kernel
theorem dJ7_fill_fda19_1 : decode cJ7_fill_fda19 1 = .ok (.arraylength, 1) := by decide +kernel
theorem dJ7_fill_fda19_2 : decode cJ7_fill_fda19 2 = .ok (.iload_n 1, 1) := by decide +kernel
theorem dJ7_fill_fda19_3 : decode cJ7_fill_fda19 3 = .ok (.iload_n 2, 1) := by decide +kernel
theorem dJ7_fill_fda19_4 : decode cJ7_fill_fda19 4 = .ok (.invokestatic 13, 3) := by decide +kernel
theorem dJ7_fill_fda19_7 : decode cJ7_fill_fda19 7 = .ok (.iload_n 1, 1) := by decide +kernel
theorem dJ7_fill_fda19_8 : decode cJ7_fill_fda19 8 = .ok (.istore 4, 2) := by decide +kernel
theorem dJ7_fill_fda19_10 : decode cJ7_fill_fda19 10 = .ok (.iload 4, 2) := by decide +kernel
theorem dJ7_fill_fda19_12 : decode cJ7_fill_fda19 12 = .ok (.iload_n 2, 1) := by decide +kernel
theorem dJ7_fill_fda19_13 : decode cJ7_fill_fda19 13 = .ok (.if_icmp .ge 14, 3) := by decide +kernel
theorem dJ7_fill_fda19_16 : decode cJ7_fill_fda19 16 = .ok (.aload_n 0, 1) := by decide +kernel
theorem dJ7_fill_fda19_17 : decode cJ7_fill_fda19 17 = .ok (.iload 4, 2) := by decide +kernel
theorem dJ7_fill_fda19_19 : decode cJ7_fill_fda19 19 = .ok (.iload_n 3, 1) := by decide +kernel
theorem dJ7_fill_fda19_20 : decode cJ7_fill_fda19 20 = .ok (.iastore, 1) := by decide +kernel
theorem dJ7_fill_fda19_21 : decode cJ7_fill_fda19 21 = .ok (.iinc 4 1, 3) := by decide +kernel
theorem dJ7_fill_fda19_24 : decode cJ7_fill_fda19 24 = .ok (.goto (-14), 3) := by decide +kernel
theorem dJ7_fill_fda19_27 : decode cJ7_fill_fda19 27 = .ok (.return_, 1) := by decide +kernel
def fn_J7_fill_fda19_10 (N : Nat) : Nat → Mem → Nat → Int32 → Int32 → Int32 → Option (Unit × Mem)
  | 0, _, _, _, _, _ => none
  | n + 1, M, a0, x2, x3, x4 =>
    if x2 ≤ x4 then
      some ((), M)
    else
      (mm_sI M a0 0 x4 x3).bind fun M1 =>
      fn_J7_fill_fda19_10 N n M1 a0 x2 x3 ((x4 + 1))
set_option maxRecDepth 100000 in
set_option maxHeartbeats 4000000 in
theorem bk_J7_fill_fda19_10 {Γ : Gm} {ω : Wd} {k N : Nat} {r : Unit} {M' : Mem} (C : Cx Γ cJ7_fill_fda19 5 RJ7 ω 2 0 0) (hr : Γ.meth.sig.returnType = none) : ∀ (n : Nat) (M : Mem) (a0 : Nat) (x2 : Int32) (x3 : Int32) (x4 : Int32), fn_J7_fill_fda19_10 N n M a0 x2 x3 x4 = some (r, M') → JJ Γ (QF Γ ω k 0 0 none M') 5 ω k M 0 0 10 [(0, .ref a0), (2, .int x2), (3, .int x3), (4, .int x4)] [] := by
  intro n
  induction n with
  | zero => intro M a0 x2 x3 x4 h; exact jv_no h
  | succ n ih =>
    intro M a0 x2 x3 x4 h
    rw [fn_J7_fill_fda19_10.eq_2] at h
    refine jv_iload C dJ7_fill_fda19_10 3 rfl ?_
    refine jv_iload_n C dJ7_fill_fda19_12 rfl 1 rfl ?_
    refine jv_icmp_ge (tgt := 27) C dJ7_fill_fda19_13 (by decide) h (fun h => ?_) (fun h => ?_)
    · exact jv_vret C hr dJ7_fill_fda19_27 h
    · refine jv_aload_n C dJ7_fill_fda19_16 rfl 0 rfl ?_
      refine jv_iload C dJ7_fill_fda19_17 3 rfl ?_
      refine jv_iload_n C dJ7_fill_fda19_19 rfl 2 rfl ?_
      refine jv_iast C dJ7_fill_fda19_20 h (fun M1 h => ?_)
      refine jv_iinc (v := 1) (lv' := [(4, .int (x4 + 1)), (0, .ref a0), (2, .int x2), (3, .int x3)]) C dJ7_fill_fda19_21 3 rfl (by decide) (by decide) rfl ?_
      refine jv_goto (tgt := 10) C dJ7_fill_fda19_24 (by decide) ?_
      refine jv_sub [1, 2, 3, 0] rfl ?_
      exact ih _ _ _ _ _ h
def fn_J7_fill_fda19 (N : Nat) (M : Mem) (a0 : Nat) (x1 : Int32) (x2 : Int32) (x3 : Int32) : Option (Unit × Mem) :=
  (mm_aN M a0).bind fun v1 =>
  mm_b2 (fn_J7_rangeCheck_23922 N M v1 x1 x2) fun _ M2 =>
  fn_J7_fill_fda19_10 N N M2 a0 x2 x3 x1
set_option maxRecDepth 100000 in
set_option maxHeartbeats 4000000 in
theorem ct_J7_fill_fda19 {l : Launch} {ω : Wd} {k N : Nat} {M : Mem} {a0 : Nat} {x1 : Int32} {x2 : Int32} {x3 : Int32} {r : Unit} {M' : Mem} (h : fn_J7_fill_fda19 N M a0 x1 x2 x3 = some (r, M')) : CM l ω k yJ7_fill_fda19 cJ7_fill_fda19 5 none 2 0 0 [.ref a0, .int x1, .int x2, .int x3] M none M' := by
  refine CM.ofF (by decide +kernel) (Nat.le_of_ble_eq_true rfl) fun Γ hl C hr hi => ?_
  subst hl
  unfold fn_J7_fill_fda19 at h
  refine jv_aload_n C dJ7_fill_fda19_0 rfl 0 rfl ?_
  refine jv_alen C dJ7_fill_fda19_1 h (fun v1 h => ?_)
  refine jv_iload_n C dJ7_fill_fda19_2 rfl 1 rfl ?_
  refine jv_iload_n C dJ7_fill_fda19_3 rfl 2 rfl ?_
  refine jv_sV0 (As := [.int v1, .int x1, .int x2]) C lk_J7_13 dJ7_fill_fda19_4 rfl rfl (by decide) (by decide) (by decide) (Nat.le_of_ble_eq_true rfl) h (fun _ _ h => ct_J7_rangeCheck_23922 h) (fun _ M2 h => ?_)
  refine jv_iload_n C dJ7_fill_fda19_7 rfl 1 rfl ?_
  refine jv_istore (lv' := [(4, .int x1), (0, .ref a0), (1, .int x1), (2, .int x2), (3, .int x3)]) C dJ7_fill_fda19_8 (by decide) rfl ?_
  refine jv_sub [1, 3, 4, 0] rfl ?_
  exact bk_J7_fill_fda19_10 C hr _ _ _ _ _ _ h
theorem dJ9_floorMod_7cf53_0 : decode cJ9_floorMod_7cf53 0 = .ok (.iload_n 0, 1) := by decide +kernel
theorem dJ9_floorMod_7cf53_1 : decode cJ9_floorMod_7cf53 1 = .ok (.iload_n 1, 1) := by decide +kernel
theorem dJ9_floorMod_7cf53_2 : decode cJ9_floorMod_7cf53 2 = .ok (.irem, 1) := by decide +kernel
theorem dJ9_floorMod_7cf53_3 : decode cJ9_floorMod_7cf53 3 = .ok (.istore_n 2, 1) := by decide +kernel
theorem dJ9_floorMod_7cf53_4 : decode cJ9_floorMod_7cf53 4 = .ok (.iload_n 0, 1) := by decide +kernel
theorem dJ9_floorMod_7cf53_5 : decode cJ9_floorMod_7cf53 5 = .ok (.iload_n 1, 1) := by decide +kernel
theorem dJ9_floorMod_7cf53_6 : decode cJ9_floorMod_7cf53 6 = .ok (.ixor, 1) := by decide +kernel
theorem dJ9_floorMod_7cf53_7 : decode cJ9_floorMod_7cf53 7 = .ok (.ifCond .ge 11, 3) := by decide +kernel
theorem dJ9_floorMod_7cf53_10 : decode cJ9_floorMod_7cf53 10 = .ok (.iload_n 2, 1) := by decide +kernel
theorem dJ9_floorMod_7cf53_11 : decode cJ9_floorMod_7cf53 11 = .ok (.ifCond .eq 7, 3) := by decide +kernel
theorem dJ9_floorMod_7cf53_14 : decode cJ9_floorMod_7cf53 14 = .ok (.iload_n 2, 1) := by decide +kernel
theorem dJ9_floorMod_7cf53_15 : decode cJ9_floorMod_7cf53 15 = .ok (.iload_n 1, 1) := by decide +kernel
theorem dJ9_floorMod_7cf53_16 : decode cJ9_floorMod_7cf53 16 = .ok (.iadd, 1) := by decide +kernel
theorem dJ9_floorMod_7cf53_17 : decode cJ9_floorMod_7cf53 17 = .ok (.ireturn, 1) := by decide +kernel
theorem dJ9_floorMod_7cf53_18 : decode cJ9_floorMod_7cf53 18 = .ok (.iload_n 2, 1) := by decide +kernel
theorem dJ9_floorMod_7cf53_19 : decode cJ9_floorMod_7cf53 19 = .ok (.ireturn, 1) := by decide +kernel
def fn_J9_floorMod_7cf53 (N : Nat) (M : Mem) (x0 : Int32) (x1 : Int32) : Option (Int32 × Mem) :=
  (mm_rI x0 x1).bind fun v1 =>
  if 0 ≤ (x0 ^^^ x1) then
    some (v1, M)
  else
    if v1 = 0 then
      some (v1, M)
    else
      some ((v1 + x1), M)
set_option maxRecDepth 100000 in
set_option maxHeartbeats 4000000 in
theorem ct_J9_floorMod_7cf53 {l : Launch} {ω : Wd} {k N : Nat} {M : Mem} {x0 : Int32} {x1 : Int32} {r : Int32} {M' : Mem} (h : fn_J9_floorMod_7cf53 N M x0 x1 = some (r, M')) : CM l ω k yJ9_floorMod_7cf53 cJ9_floorMod_7cf53 3 (some .int) 0 0 0 [.int x0, .int x1] M (some (.int r)) M' := by
  refine CM.ofF (by decide +kernel) (Nat.le_of_ble_eq_true rfl) fun Γ hl C hr hi => ?_
  subst hl
  unfold fn_J9_floorMod_7cf53 at h
  refine jv_iload_n C dJ9_floorMod_7cf53_0 rfl 0 rfl ?_
  refine jv_iload_n C dJ9_floorMod_7cf53_1 rfl 1 rfl ?_
  refine jv_irem C dJ9_floorMod_7cf53_2 h (fun v1 h => ?_)
  refine jv_istore_n (lv' := [(2, .int v1), (0, .int x0), (1, .int x1)]) C dJ9_floorMod_7cf53_3 rfl (by decide) rfl ?_
  refine jv_iload_n C dJ9_floorMod_7cf53_4 rfl 1 rfl ?_
  refine jv_iload_n C dJ9_floorMod_7cf53_5 rfl 2 rfl ?_
  refine jv_ixor C dJ9_floorMod_7cf53_6 ?_
  refine jv_if_ge (tgt := 18) C dJ9_floorMod_7cf53_7 (by decide) h (fun h => ?_) (fun h => ?_)
  · refine jv_iload_n C dJ9_floorMod_7cf53_18 rfl 0 rfl ?_
    exact jv_iret C hr dJ9_floorMod_7cf53_19 h
  · refine jv_iload_n C dJ9_floorMod_7cf53_10 rfl 0 rfl ?_
    refine jv_if_eq (tgt := 18) C dJ9_floorMod_7cf53_11 (by decide) h (fun h => ?_) (fun h => ?_)
    · refine jv_iload_n C dJ9_floorMod_7cf53_18 rfl 0 rfl ?_
      exact jv_iret C hr dJ9_floorMod_7cf53_19 h
    · refine jv_iload_n C dJ9_floorMod_7cf53_14 rfl 0 rfl ?_
      refine jv_iload_n C dJ9_floorMod_7cf53_15 rfl 2 rfl ?_
      refine jv_iadd C dJ9_floorMod_7cf53_16 ?_
      exact jv_iret C hr dJ9_floorMod_7cf53_17 h
theorem dJ7_fill_bad5a_0 : decode cJ7_fill_bad5a 0 = .ok (.aload_n 0, 1) := by decide +kernel
theorem dJ7_fill_bad5a_1 : decode cJ7_fill_bad5a 1 = .ok (.arraylength, 1) := by decide +kernel
theorem dJ7_fill_bad5a_2 : decode cJ7_fill_bad5a 2 = .ok (.iload_n 1, 1) := by decide +kernel
theorem dJ7_fill_bad5a_3 : decode cJ7_fill_bad5a 3 = .ok (.iload_n 2, 1) := by decide +kernel
theorem dJ7_fill_bad5a_4 : decode cJ7_fill_bad5a 4 = .ok (.invokestatic 13, 3) := by decide +kernel
theorem dJ7_fill_bad5a_7 : decode cJ7_fill_bad5a 7 = .ok (.iload_n 1, 1) := by decide +kernel
theorem dJ7_fill_bad5a_8 : decode cJ7_fill_bad5a 8 = .ok (.istore 5, 2) := by decide +kernel
theorem dJ7_fill_bad5a_10 : decode cJ7_fill_bad5a 10 = .ok (.iload 5, 2) := by decide +kernel
theorem dJ7_fill_bad5a_12 : decode cJ7_fill_bad5a 12 = .ok (.iload_n 2, 1) := by decide +kernel
theorem dJ7_fill_bad5a_13 : decode cJ7_fill_bad5a 13 = .ok (.if_icmp .ge 14, 3) := by decide +kernel
theorem dJ7_fill_bad5a_16 : decode cJ7_fill_bad5a 16 = .ok (.aload_n 0, 1) := by decide +kernel
theorem dJ7_fill_bad5a_17 : decode cJ7_fill_bad5a 17 = .ok (.iload 5, 2) := by decide +kernel
theorem dJ7_fill_bad5a_19 : decode cJ7_fill_bad5a 19 = .ok (.lload_n 3, 1) := by decide +kernel
theorem dJ7_fill_bad5a_20 : decode cJ7_fill_bad5a 20 = .ok (.lastore, 1) := by decide +kernel
theorem dJ7_fill_bad5a_21 : decode cJ7_fill_bad5a 21 = .ok (.iinc 5 1, 3) := by decide +kernel
theorem dJ7_fill_bad5a_24 : decode cJ7_fill_bad5a 24 = .ok (.goto (-14), 3) := by decide +kernel
theorem dJ7_fill_bad5a_27 : decode cJ7_fill_bad5a 27 = .ok (.return_, 1) := by decide +kernel
def fn_J7_fill_bad5a_10 (N : Nat) : Nat → Mem → Nat → Int32 → Int64 → Int32 → Option (Unit × Mem)
  | 0, _, _, _, _, _ => none
  | n + 1, M, a0, x2, y3, x5 =>
    if x2 ≤ x5 then
      some ((), M)
    else
      (mm_sL M a0 x5 y3).bind fun M1 =>
      fn_J7_fill_bad5a_10 N n M1 a0 x2 y3 ((x5 + 1))
set_option maxRecDepth 100000 in
set_option maxHeartbeats 4000000 in
theorem bk_J7_fill_bad5a_10 {Γ : Gm} {ω : Wd} {k N : Nat} {r : Unit} {M' : Mem} (C : Cx Γ cJ7_fill_bad5a 6 RJ7 ω 2 0 0) (hr : Γ.meth.sig.returnType = none) : ∀ (n : Nat) (M : Mem) (a0 : Nat) (x2 : Int32) (y3 : Int64) (x5 : Int32), fn_J7_fill_bad5a_10 N n M a0 x2 y3 x5 = some (r, M') → JJ Γ (QF Γ ω k 0 0 none M') 6 ω k M 0 0 10 [(0, .ref a0), (2, .int x2), (3, .long y3), (5, .int x5)] [] := by
  intro n
  induction n with
  | zero => intro M a0 x2 y3 x5 h; exact jv_no h
  | succ n ih =>
    intro M a0 x2 y3 x5 h
    rw [fn_J7_fill_bad5a_10.eq_2] at h
    refine jv_iload C dJ7_fill_bad5a_10 3 rfl ?_
    refine jv_iload_n C dJ7_fill_bad5a_12 rfl 1 rfl ?_
    refine jv_icmp_ge (tgt := 27) C dJ7_fill_bad5a_13 (by decide) h (fun h => ?_) (fun h => ?_)
    · exact jv_vret C hr dJ7_fill_bad5a_27 h
    · refine jv_aload_n C dJ7_fill_bad5a_16 rfl 0 rfl ?_
      refine jv_iload C dJ7_fill_bad5a_17 3 rfl ?_
      refine jv_lload_n C dJ7_fill_bad5a_19 rfl 2 rfl ?_
      refine jv_last C dJ7_fill_bad5a_20 h (fun M1 h => ?_)
      refine jv_iinc (v := 1) (lv' := [(5, .int (x5 + 1)), (0, .ref a0), (2, .int x2), (3, .long y3)]) C dJ7_fill_bad5a_21 3 rfl (by decide) (by decide) rfl ?_
      refine jv_goto (tgt := 10) C dJ7_fill_bad5a_24 (by decide) ?_
      refine jv_sub [1, 2, 3, 0] rfl ?_
      exact ih _ _ _ _ _ h
def fn_J7_fill_bad5a (N : Nat) (M : Mem) (a0 : Nat) (x1 : Int32) (x2 : Int32) (y3 : Int64) : Option (Unit × Mem) :=
  (mm_aN M a0).bind fun v1 =>
  mm_b2 (fn_J7_rangeCheck_23922 N M v1 x1 x2) fun _ M2 =>
  fn_J7_fill_bad5a_10 N N M2 a0 x2 y3 x1
set_option maxRecDepth 100000 in
set_option maxHeartbeats 4000000 in
theorem ct_J7_fill_bad5a {l : Launch} {ω : Wd} {k N : Nat} {M : Mem} {a0 : Nat} {x1 : Int32} {x2 : Int32} {y3 : Int64} {r : Unit} {M' : Mem} (h : fn_J7_fill_bad5a N M a0 x1 x2 y3 = some (r, M')) : CM l ω k yJ7_fill_bad5a cJ7_fill_bad5a 6 none 2 0 0 [.ref a0, .int x1, .int x2, .long y3] M none M' := by
  refine CM.ofF (by decide +kernel) (Nat.le_of_ble_eq_true rfl) fun Γ hl C hr hi => ?_
  subst hl
  unfold fn_J7_fill_bad5a at h
  refine jv_aload_n C dJ7_fill_bad5a_0 rfl 0 rfl ?_
  refine jv_alen C dJ7_fill_bad5a_1 h (fun v1 h => ?_)
  refine jv_iload_n C dJ7_fill_bad5a_2 rfl 1 rfl ?_
  refine jv_iload_n C dJ7_fill_bad5a_3 rfl 2 rfl ?_
  refine jv_sV0 (As := [.int v1, .int x1, .int x2]) C lk_J7_13 dJ7_fill_bad5a_4 rfl rfl (by decide) (by decide) (by decide) (Nat.le_of_ble_eq_true rfl) h (fun _ _ h => ct_J7_rangeCheck_23922 h) (fun _ M2 h => ?_)
  refine jv_iload_n C dJ7_fill_bad5a_7 rfl 1 rfl ?_
  refine jv_istore (lv' := [(5, .int x1), (0, .ref a0), (1, .int x1), (2, .int x2), (3, .long y3)]) C dJ7_fill_bad5a_8 (by decide) rfl ?_
  refine jv_sub [1, 3, 4, 0] rfl ?_
  exact bk_J7_fill_bad5a_10 C hr _ _ _ _ _ _ h
theorem dJ7_fill_53178_0 : decode cJ7_fill_53178 0 = .ok (.iconst 0, 1) := by decide +kernel
theorem dJ7_fill_53178_1 : decode cJ7_fill_53178 1 = .ok (.istore_n 2, 1) := by decide +kernel
theorem dJ7_fill_53178_2 : decode cJ7_fill_53178 2 = .ok (.aload_n 0, 1) := by decide +kernel
theorem dJ7_fill_53178_3 : decode cJ7_fill_53178 3 = .ok (.arraylength, 1) := by decide +kernel
theorem dJ7_fill_53178_4 : decode cJ7_fill_53178 4 = .ok (.istore_n 3, 1) := by decide +kernel
theorem dJ7_fill_53178_5 : decode cJ7_fill_53178 5 = .ok (.iload_n 2, 1) := by decide +kernel
theorem dJ7_fill_53178_6 : decode cJ7_fill_53178 6 = .ok (.iload_n 3, 1) := by decide +kernel
theorem dJ7_fill_53178_7 : decode cJ7_fill_53178 7 = .ok (.if_icmp .ge 13, 3) := by decide +kernel
theorem dJ7_fill_53178_10 : decode cJ7_fill_53178 10 = .ok (.aload_n 0, 1) := by decide +kernel
theorem dJ7_fill_53178_11 : decode cJ7_fill_53178 11 = .ok (.iload_n 2, 1) := by decide +kernel
theorem dJ7_fill_53178_12 : decode cJ7_fill_53178 12 = .ok (.iload_n 1, 1) := by decide +kernel
theorem dJ7_fill_53178_13 : decode cJ7_fill_53178 13 = .ok (.iastore, 1) := by decide +kernel
theorem dJ7_fill_53178_14 : decode cJ7_fill_53178 14 = .ok (.iinc 2 1, 3) := by decide +kernel
theorem dJ7_fill_53178_17 : decode cJ7_fill_53178 17 = .ok (.goto (-12), 3) := by decide +kernel
theorem dJ7_fill_53178_20 : decode cJ7_fill_53178 20 = .ok (.return_, 1) := by decide +kernel
def fn_J7_fill_53178_5 (N : Nat) : Nat → Mem → Nat → Int32 → Int32 → Int32 → Option (Unit × Mem)
  | 0, _, _, _, _, _ => none
  | n + 1, M, a0, x1, x2, x3 =>
    if x3 ≤ x2 then
      some ((), M)
    else
      (mm_sI M a0 0 x2 x1).bind fun M1 =>
      fn_J7_fill_53178_5 N n M1 a0 x1 ((x2 + 1)) x3
set_option maxRecDepth 100000 in
set_option maxHeartbeats 4000000 in
theorem bk_J7_fill_53178_5 {Γ : Gm} {ω : Wd} {k N : Nat} {r : Unit} {M' : Mem} (C : Cx Γ cJ7_fill_53178 4 RJ7 ω 0 0 0) (hr : Γ.meth.sig.returnType = none) : ∀ (n : Nat) (M : Mem) (a0 : Nat) (x1 : Int32) (x2 : Int32) (x3 : Int32), fn_J7_fill_53178_5 N n M a0 x1 x2 x3 = some (r, M') → JJ Γ (QF Γ ω k 0 0 none M') 4 ω k M 0 0 5 [(0, .ref a0), (1, .int x1), (2, .int x2), (3, .int x3)] [] := by
  intro n
  induction n with
  | zero => intro M a0 x1 x2 x3 h; exact jv_no h
  | succ n ih =>
    intro M a0 x1 x2 x3 h
    rw [fn_J7_fill_53178_5.eq_2] at h
    refine jv_iload_n C dJ7_fill_53178_5 rfl 2 rfl ?_
    refine jv_iload_n C dJ7_fill_53178_6 rfl 3 rfl ?_
    refine jv_icmp_ge (tgt := 20) C dJ7_fill_53178_7 (by decide) h (fun h => ?_) (fun h => ?_)
    · exact jv_vret C hr dJ7_fill_53178_20 h
    · refine jv_aload_n C dJ7_fill_53178_10 rfl 0 rfl ?_
      refine jv_iload_n C dJ7_fill_53178_11 rfl 2 rfl ?_
      refine jv_iload_n C dJ7_fill_53178_12 rfl 1 rfl ?_
      refine jv_iast C dJ7_fill_53178_13 h (fun M1 h => ?_)
      refine jv_iinc (v := 1) (lv' := [(2, .int (x2 + 1)), (0, .ref a0), (1, .int x1), (3, .int x3)]) C dJ7_fill_53178_14 2 rfl (by decide) (by decide) rfl ?_
      refine jv_goto (tgt := 5) C dJ7_fill_53178_17 (by decide) ?_
      refine jv_sub [1, 2, 0, 3] rfl ?_
      exact ih _ _ _ _ _ h
def fn_J7_fill_53178 (N : Nat) (M : Mem) (a0 : Nat) (x1 : Int32) : Option (Unit × Mem) :=
  (mm_aN M a0).bind fun v1 =>
  fn_J7_fill_53178_5 N N M a0 x1 0 v1
set_option maxRecDepth 100000 in
set_option maxHeartbeats 4000000 in
theorem ct_J7_fill_53178 {l : Launch} {ω : Wd} {k N : Nat} {M : Mem} {a0 : Nat} {x1 : Int32} {r : Unit} {M' : Mem} (h : fn_J7_fill_53178 N M a0 x1 = some (r, M')) : CM l ω k yJ7_fill_53178 cJ7_fill_53178 4 none 0 0 0 [.ref a0, .int x1] M none M' := by
  refine CM.ofF (by decide +kernel) (Nat.le_of_ble_eq_true rfl) fun Γ hl C hr hi => ?_
  subst hl
  unfold fn_J7_fill_53178 at h
  refine jv_iconst (v := 0) C dJ7_fill_53178_0 (by decide) ?_
  refine jv_istore_n (lv' := [(2, .int 0), (0, .ref a0), (1, .int x1)]) C dJ7_fill_53178_1 rfl (by decide) rfl ?_
  refine jv_aload_n C dJ7_fill_53178_2 rfl 1 rfl ?_
  refine jv_alen C dJ7_fill_53178_3 h (fun v1 h => ?_)
  refine jv_istore_n (lv' := [(3, .int v1), (2, .int 0), (0, .ref a0), (1, .int x1)]) C dJ7_fill_53178_4 rfl (by decide) rfl ?_
  refine jv_sub [2, 3, 1, 0] rfl ?_
  exact bk_J7_fill_53178_5 C hr _ _ _ _ _ _ h
