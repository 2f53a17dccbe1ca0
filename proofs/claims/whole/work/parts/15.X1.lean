theorem dX1_forget_0 : decode cX1_forget 0 = .ok (.aload_n 0, 1) := by decide +kernel
theorem dX1_forget_1 : decode cX1_forget 1 = .ok (.iconst 0, 1) := by decide +kernel
theorem dX1_forget_2 : decode cX1_forget 2 = .ok (.putfield 22, 3) := by decide +kernel
theorem dX1_forget_5 : decode cX1_forget 5 = .ok (.return_, 1) := by decide +kernel
def fn_X1_forget (N : Nat) (M : Mem) (a0 : Nat) : Option (Unit × Mem) :=
  (mm_pV M a0 1 2 (.int 0)).bind fun M1 =>
  some ((), M1)
set_option maxRecDepth 100000 in
set_option maxHeartbeats 4000000 in
theorem ct_X1_forget {l : Launch} {ω : Wd} {k N : Nat} {M : Mem} {a0 : Nat} {r : Unit} {M' : Mem} (h : fn_X1_forget N M a0 = some (r, M')) : CM l ω k yX1_forget cX1_forget 1 none 0 0 0 [.ref a0] M none M' := by
  refine CM.of (by decide) (Nat.le_of_ble_eq_true rfl) fun Γ hl C hr hi => ?_
  subst hl
  unfold fn_X1_forget at h
  refine jv_aload_n C dX1_forget_0 rfl 0 rfl ?_
  refine jv_iconst (v := 0) C dX1_forget_1 (by decide) ?_
  refine jv_putI C fp_X1_22 dX1_forget_2 h (fun M1 h => ?_)
  exact jv_vret C hr dX1_forget_5 h
theorem dX1_init_0 : decode cX1_init 0 = .ok (.aload_n 0, 1) := by decide +kernel
theorem dX1_init_1 : decode cX1_init 1 = .ok (.invokespecial 3, 3) := by decide +kernel
theorem dX1_init_4 : decode cX1_init 4 = .ok (.aload_n 0, 1) := by decide +kernel
theorem dX1_init_5 : decode cX1_init 5 = .ok (.bipush 12, 2) := by decide +kernel
theorem dX1_init_7 : decode cX1_init 7 = .ok (.anewarray 9, 3) := by decide +kernel
theorem dX1_init_10 : decode cX1_init 10 = .ok (.putfield 11, 3) := by decide +kernel
theorem dX1_init_13 : decode cX1_init 13 = .ok (.iconst 0, 1) := by decide +kernel
theorem dX1_init_14 : decode cX1_init 14 = .ok (.istore_n 1, 1) := by decide +kernel
theorem dX1_init_15 : decode cX1_init 15 = .ok (.iload_n 1, 1) := by decide +kernel
theorem dX1_init_16 : decode cX1_init 16 = .ok (.bipush 12, 2) := by decide +kernel
theorem dX1_init_18 : decode cX1_init 18 = .ok (.if_icmp .ge 22, 3) := by decide +kernel
theorem dX1_init_21 : decode cX1_init 21 = .ok (.aload_n 0, 1) := by decide +kernel
theorem dX1_init_22 : decode cX1_init 22 = .ok (.getfield 11, 3) := by decide +kernel
theorem dX1_init_25 : decode cX1_init 25 = .ok (.iload_n 1, 1) := by decide +kernel
theorem dX1_init_26 : decode cX1_init 26 = .ok (.new 9, 3) := by decide +kernel
theorem dX1_init_29 : decode cX1_init 29 = .ok (.dup, 1) := by decide +kernel
theorem dX1_init_30 : decode cX1_init 30 = .ok (.invokespecial 17, 3) := by decide +kernel
theorem dX1_init_33 : decode cX1_init 33 = .ok (.aastore, 1) := by decide +kernel
theorem dX1_init_34 : decode cX1_init 34 = .ok (.iinc 1 1, 3) := by decide +kernel
theorem dX1_init_37 : decode cX1_init 37 = .ok (.goto (-22), 3) := by decide +kernel
theorem dX1_init_40 : decode cX1_init 40 = .ok (.return_, 1) := by decide +kernel
def fn_X1_init (N : Nat) (M : Mem) (a0 : Nat) : Option (Unit × Mem) :=
  mm_b2 (mm_nA M 12 12 (fun N => .inl (4, N, .inr (.inr (.inr (.inr (fun _ => none))))))) fun b1 M2 =>
  (mm_pV M2 a0 1 0 (.ref b1)).bind fun M3 =>
  (mm_gR M3 a0 1 0).bind fun b4 =>
  mm_nm M3.length (M3 ++ [.inr (7, [.int 0, .int 0, .int 0, .int 0, .int 0, .null, .null, .null, .null, .null, .null, .null, .null, .null, .null])]) fun b5 M6 =>
  mm_b2 (fn_X7_init N M6 b5) fun _ M7 =>
  (mm_sR M7 b4 0 b5).bind fun M8 =>
  (mm_gR M8 a0 1 0).bind fun b9 =>
  mm_nm M8.length (M8 ++ [.inr (7, [.int 0, .int 0, .int 0, .int 0, .int 0, .null, .null, .null, .null, .null, .null, .null, .null, .null, .null])]) fun b10 M11 =>
  mm_b2 (fn_X7_init N M11 b10) fun _ M12 =>
  (mm_sR M12 b9 (0 + 1) b10).bind fun M13 =>
  (mm_gR M13 a0 1 0).bind fun b14 =>
  mm_nm M13.length (M13 ++ [.inr (7, [.int 0, .int 0, .int 0, .int 0, .int 0, .null, .null, .null, .null, .null, .null, .null, .null, .null, .null])]) fun b15 M16 =>
  mm_b2 (fn_X7_init N M16 b15) fun _ M17 =>
  (mm_sR M17 b14 ((0 + 1) + 1) b15).bind fun M18 =>
  (mm_gR M18 a0 1 0).bind fun b19 =>
  mm_nm M18.length (M18 ++ [.inr (7, [.int 0, .int 0, .int 0, .int 0, .int 0, .null, .null, .null, .null, .null, .null, .null, .null, .null, .null])]) fun b20 M21 =>
  mm_b2 (fn_X7_init N M21 b20) fun _ M22 =>
  (mm_sR M22 b19 (((0 + 1) + 1) + 1) b20).bind fun M23 =>
  (mm_gR M23 a0 1 0).bind fun b24 =>
  mm_nm M23.length (M23 ++ [.inr (7, [.int 0, .int 0, .int 0, .int 0, .int 0, .null, .null, .null, .null, .null, .null, .null, .null, .null, .null])]) fun b25 M26 =>
  mm_b2 (fn_X7_init N M26 b25) fun _ M27 =>
  (mm_sR M27 b24 ((((0 + 1) + 1) + 1) + 1) b25).bind fun M28 =>
  (mm_gR M28 a0 1 0).bind fun b29 =>
  mm_nm M28.length (M28 ++ [.inr (7, [.int 0, .int 0, .int 0, .int 0, .int 0, .null, .null, .null, .null, .null, .null, .null, .null, .null, .null])]) fun b30 M31 =>
  mm_b2 (fn_X7_init N M31 b30) fun _ M32 =>
  (mm_sR M32 b29 (((((0 + 1) + 1) + 1) + 1) + 1) b30).bind fun M33 =>
  (mm_gR M33 a0 1 0).bind fun b34 =>
  mm_nm M33.length (M33 ++ [.inr (7, [.int 0, .int 0, .int 0, .int 0, .int 0, .null, .null, .null, .null, .null, .null, .null, .null, .null, .null])]) fun b35 M36 =>
  mm_b2 (fn_X7_init N M36 b35) fun _ M37 =>
  (mm_sR M37 b34 ((((((0 + 1) + 1) + 1) + 1) + 1) + 1) b35).bind fun M38 =>
  (mm_gR M38 a0 1 0).bind fun b39 =>
  mm_nm M38.length (M38 ++ [.inr (7, [.int 0, .int 0, .int 0, .int 0, .int 0, .null, .null, .null, .null, .null, .null, .null, .null, .null, .null])]) fun b40 M41 =>
  mm_b2 (fn_X7_init N M41 b40) fun _ M42 =>
  (mm_sR M42 b39 (((((((0 + 1) + 1) + 1) + 1) + 1) + 1) + 1) b40).bind fun M43 =>
  (mm_gR M43 a0 1 0).bind fun b44 =>
  mm_nm M43.length (M43 ++ [.inr (7, [.int 0, .int 0, .int 0, .int 0, .int 0, .null, .null, .null, .null, .null, .null, .null, .null, .null, .null])]) fun b45 M46 =>
  mm_b2 (fn_X7_init N M46 b45) fun _ M47 =>
  (mm_sR M47 b44 ((((((((0 + 1) + 1) + 1) + 1) + 1) + 1) + 1) + 1) b45).bind fun M48 =>
  (mm_gR M48 a0 1 0).bind fun b49 =>
  mm_nm M48.length (M48 ++ [.inr (7, [.int 0, .int 0, .int 0, .int 0, .int 0, .null, .null, .null, .null, .null, .null, .null, .null, .null, .null])]) fun b50 M51 =>
  mm_b2 (fn_X7_init N M51 b50) fun _ M52 =>
  (mm_sR M52 b49 (((((((((0 + 1) + 1) + 1) + 1) + 1) + 1) + 1) + 1) + 1) b50).bind fun M53 =>
  (mm_gR M53 a0 1 0).bind fun b54 =>
  mm_nm M53.length (M53 ++ [.inr (7, [.int 0, .int 0, .int 0, .int 0, .int 0, .null, .null, .null, .null, .null, .null, .null, .null, .null, .null])]) fun b55 M56 =>
  mm_b2 (fn_X7_init N M56 b55) fun _ M57 =>
  (mm_sR M57 b54 ((((((((((0 + 1) + 1) + 1) + 1) + 1) + 1) + 1) + 1) + 1) + 1) b55).bind fun M58 =>
  (mm_gR M58 a0 1 0).bind fun b59 =>
  mm_nm M58.length (M58 ++ [.inr (7, [.int 0, .int 0, .int 0, .int 0, .int 0, .null, .null, .null, .null, .null, .null, .null, .null, .null, .null])]) fun b60 M61 =>
  mm_b2 (fn_X7_init N M61 b60) fun _ M62 =>
  (mm_sR M62 b59 (((((((((((0 + 1) + 1) + 1) + 1) + 1) + 1) + 1) + 1) + 1) + 1) + 1) b60).bind fun M63 =>
  some ((), M63)
set_option maxRecDepth 100000 in
set_option maxHeartbeats 4000000 in
theorem ct_X1_init {l : Launch} {ω : Wd} {N : Nat} {M : Mem} {a0 : Nat} {r : Unit} {M' : Mem} (h : fn_X1_init N M a0 = some (r, M')) : CM l ω 0 yX1_init cX1_init 2 none 5 253 7632 [.ref a0] M none M' := by
  refine CM.of (by decide) (Nat.le_of_ble_eq_true rfl) fun Γ hl C hr hi => ?_
  subst hl
  unfold fn_X1_init at h
  refine jv_aload_n C dX1_init_0 rfl 0 rfl ?_
  refine jv_objInit C gw_683 gw_129 gw_130 (Nat.le_of_ble_eq_true rfl) dX1_init_1 ?_
  refine jv_aload_n C dX1_init_4 rfl 0 rfl ?_
  refine jv_bipush (v := 12) C dX1_init_5 (by decide) ?_
  refine jv_newq2 (lim := 12) C gw_684 (by decide) (by decide) (by decide) dX1_init_7 h (fun b1 M2 h => ?_)
  refine jv_putFR C fp_X1_11 hi dX1_init_10 (fun _ => ⟨rfl, rfl⟩) h (fun M3 h => ?_)
  refine jv_iconst (v := 0) C dX1_init_13 (by decide) ?_
  refine jv_istore_n (lv' := [(1, .int 0), (0, .ref a0)]) C dX1_init_14 rfl (by decide) rfl ?_
  refine jv_iload_n C dX1_init_15 rfl 0 rfl ?_
  refine jv_bipush (v := 12) C dX1_init_16 (by decide) ?_
  refine jv_icmp_gekf (tgt := 40) C dX1_init_18 (by decide) (by decide) ?_
  refine jv_aload_n C dX1_init_21 rfl 1 rfl ?_
  refine jv_getR C fa_X1_11 dX1_init_22 h (fun b4 h => ?_)
  refine jv_iload_n C dX1_init_25 rfl 0 rfl ?_
  refine jv_new (ci := 7) (fs := [.int 0, .int 0, .int 0, .int 0, .int 0, .null, .null, .null, .null, .null, .null, .null, .null, .null, .null]) (tf := tyX7) C rfl uw_X7 tyX7_ok gw_684 gw_268 gw_99 (fun j hj => nd_X7 ω j hj) (by decide) (by decide) dX1_init_26 ?_
  refine jv_name h (fun b5 M6 h => ?_)
  refine jv_dup C dX1_init_29 rfl ?_
  refine jv_iV (As := []) C lk_X1_17 dX1_init_30 rfl rfl (by decide) (by decide) (by decide) (Nat.le_of_ble_eq_true rfl) h (fun _ _ h => ct_X7_init h) (fun _ M7 h => ?_)
  refine jv_aast C dX1_init_33 h (fun M8 h => ?_)
  refine jv_iinc (v := 1) (lv' := [(1, .int (0 + 1)), (0, .ref a0)]) C dX1_init_34 0 rfl (by decide) (by decide) rfl ?_
  refine jv_goto (tgt := 15) C dX1_init_37 (by decide) ?_
  refine jv_iload_n C dX1_init_15 rfl 0 rfl ?_
  refine jv_bipush (v := 12) C dX1_init_16 (by decide) ?_
  refine jv_icmp_gekf (tgt := 40) C dX1_init_18 (by decide) (by decide) ?_
  refine jv_aload_n C dX1_init_21 rfl 1 rfl ?_
  refine jv_getR C fa_X1_11 dX1_init_22 h (fun b9 h => ?_)
  refine jv_iload_n C dX1_init_25 rfl 0 rfl ?_
  refine jv_new (ci := 7) (fs := [.int 0, .int 0, .int 0, .int 0, .int 0, .null, .null, .null, .null, .null, .null, .null, .null, .null, .null]) (tf := tyX7) C rfl uw_X7 tyX7_ok gw_684 gw_268 gw_99 (fun j hj => nd_X7 ω j hj) (by decide) (by decide) dX1_init_26 ?_
  refine jv_name h (fun b10 M11 h => ?_)
  refine jv_dup C dX1_init_29 rfl ?_
  refine jv_iV (As := []) C lk_X1_17 dX1_init_30 rfl rfl (by decide) (by decide) (by decide) (Nat.le_of_ble_eq_true rfl) h (fun _ _ h => ct_X7_init h) (fun _ M12 h => ?_)
  refine jv_aast C dX1_init_33 h (fun M13 h => ?_)
  refine jv_iinc (v := 1) (lv' := [(1, .int ((0 + 1) + 1)), (0, .ref a0)]) C dX1_init_34 0 rfl (by decide) (by decide) rfl ?_
  refine jv_goto (tgt := 15) C dX1_init_37 (by decide) ?_
  refine jv_iload_n C dX1_init_15 rfl 0 rfl ?_
  refine jv_bipush (v := 12) C dX1_init_16 (by decide) ?_
  refine jv_icmp_gekf (tgt := 40) C dX1_init_18 (by decide) (by decide) ?_
  refine jv_aload_n C dX1_init_21 rfl 1 rfl ?_
  refine jv_getR C fa_X1_11 dX1_init_22 h (fun b14 h => ?_)
  refine jv_iload_n C dX1_init_25 rfl 0 rfl ?_
  refine jv_new (ci := 7) (fs := [.int 0, .int 0, .int 0, .int 0, .int 0, .null, .null, .null, .null, .null, .null, .null, .null, .null, .null]) (tf := tyX7) C rfl uw_X7 tyX7_ok gw_684 gw_268 gw_99 (fun j hj => nd_X7 ω j hj) (by decide) (by decide) dX1_init_26 ?_
  refine jv_name h (fun b15 M16 h => ?_)
  refine jv_dup C dX1_init_29 rfl ?_
  refine jv_iV (As := []) C lk_X1_17 dX1_init_30 rfl rfl (by decide) (by decide) (by decide) (Nat.le_of_ble_eq_true rfl) h (fun _ _ h => ct_X7_init h) (fun _ M17 h => ?_)
  refine jv_aast C dX1_init_33 h (fun M18 h => ?_)
  refine jv_iinc (v := 1) (lv' := [(1, .int (((0 + 1) + 1) + 1)), (0, .ref a0)]) C dX1_init_34 0 rfl (by decide) (by decide) rfl ?_
  refine jv_goto (tgt := 15) C dX1_init_37 (by decide) ?_
  refine jv_iload_n C dX1_init_15 rfl 0 rfl ?_
  refine jv_bipush (v := 12) C dX1_init_16 (by decide) ?_
  refine jv_icmp_gekf (tgt := 40) C dX1_init_18 (by decide) (by decide) ?_
  refine jv_aload_n C dX1_init_21 rfl 1 rfl ?_
  refine jv_getR C fa_X1_11 dX1_init_22 h (fun b19 h => ?_)
  refine jv_iload_n C dX1_init_25 rfl 0 rfl ?_
  refine jv_new (ci := 7) (fs := [.int 0, .int 0, .int 0, .int 0, .int 0, .null, .null, .null, .null, .null, .null, .null, .null, .null, .null]) (tf := tyX7) C rfl uw_X7 tyX7_ok gw_684 gw_268 gw_99 (fun j hj => nd_X7 ω j hj) (by decide) (by decide) dX1_init_26 ?_
  refine jv_name h (fun b20 M21 h => ?_)
  refine jv_dup C dX1_init_29 rfl ?_
  refine jv_iV (As := []) C lk_X1_17 dX1_init_30 rfl rfl (by decide) (by decide) (by decide) (Nat.le_of_ble_eq_true rfl) h (fun _ _ h => ct_X7_init h) (fun _ M22 h => ?_)
  refine jv_aast C dX1_init_33 h (fun M23 h => ?_)
  refine jv_iinc (v := 1) (lv' := [(1, .int ((((0 + 1) + 1) + 1) + 1)), (0, .ref a0)]) C dX1_init_34 0 rfl (by decide) (by decide) rfl ?_
  refine jv_goto (tgt := 15) C dX1_init_37 (by decide) ?_
  refine jv_iload_n C dX1_init_15 rfl 0 rfl ?_
  refine jv_bipush (v := 12) C dX1_init_16 (by decide) ?_
  refine jv_icmp_gekf (tgt := 40) C dX1_init_18 (by decide) (by decide) ?_
  refine jv_aload_n C dX1_init_21 rfl 1 rfl ?_
  refine jv_getR C fa_X1_11 dX1_init_22 h (fun b24 h => ?_)
  refine jv_iload_n C dX1_init_25 rfl 0 rfl ?_
  refine jv_new (ci := 7) (fs := [.int 0, .int 0, .int 0, .int 0, .int 0, .null, .null, .null, .null, .null, .null, .null, .null, .null, .null]) (tf := tyX7) C rfl uw_X7 tyX7_ok gw_684 gw_268 gw_99 (fun j hj => nd_X7 ω j hj) (by decide) (by decide) dX1_init_26 ?_
  refine jv_name h (fun b25 M26 h => ?_)
  refine jv_dup C dX1_init_29 rfl ?_
  refine jv_iV (As := []) C lk_X1_17 dX1_init_30 rfl rfl (by decide) (by decide) (by decide) (Nat.le_of_ble_eq_true rfl) h (fun _ _ h => ct_X7_init h) (fun _ M27 h => ?_)
  refine jv_aast C dX1_init_33 h (fun M28 h => ?_)
  refine jv_iinc (v := 1) (lv' := [(1, .int (((((0 + 1) + 1) + 1) + 1) + 1)), (0, .ref a0)]) C dX1_init_34 0 rfl (by decide) (by decide) rfl ?_
  refine jv_goto (tgt := 15) C dX1_init_37 (by decide) ?_
  refine jv_iload_n C dX1_init_15 rfl 0 rfl ?_
  refine jv_bipush (v := 12) C dX1_init_16 (by decide) ?_
  refine jv_icmp_gekf (tgt := 40) C dX1_init_18 (by decide) (by decide) ?_
  refine jv_aload_n C dX1_init_21 rfl 1 rfl ?_
  refine jv_getR C fa_X1_11 dX1_init_22 h (fun b29 h => ?_)
  refine jv_iload_n C dX1_init_25 rfl 0 rfl ?_
  refine jv_new (ci := 7) (fs := [.int 0, .int 0, .int 0, .int 0, .int 0, .null, .null, .null, .null, .null, .null, .null, .null, .null, .null]) (tf := tyX7) C rfl uw_X7 tyX7_ok gw_684 gw_268 gw_99 (fun j hj => nd_X7 ω j hj) (by decide) (by decide) dX1_init_26 ?_
  refine jv_name h (fun b30 M31 h => ?_)
  refine jv_dup C dX1_init_29 rfl ?_
  refine jv_iV (As := []) C lk_X1_17 dX1_init_30 rfl rfl (by decide) (by decide) (by decide) (Nat.le_of_ble_eq_true rfl) h (fun _ _ h => ct_X7_init h) (fun _ M32 h => ?_)
  refine jv_aast C dX1_init_33 h (fun M33 h => ?_)
  refine jv_iinc (v := 1) (lv' := [(1, .int ((((((0 + 1) + 1) + 1) + 1) + 1) + 1)), (0, .ref a0)]) C dX1_init_34 0 rfl (by decide) (by decide) rfl ?_
  refine jv_goto (tgt := 15) C dX1_init_37 (by decide) ?_
  refine jv_iload_n C dX1_init_15 rfl 0 rfl ?_
  refine jv_bipush (v := 12) C dX1_init_16 (by decide) ?_
  refine jv_icmp_gekf (tgt := 40) C dX1_init_18 (by decide) (by decide) ?_
  refine jv_aload_n C dX1_init_21 rfl 1 rfl ?_
  refine jv_getR C fa_X1_11 dX1_init_22 h (fun b34 h => ?_)
  refine jv_iload_n C dX1_init_25 rfl 0 rfl ?_
  refine jv_new (ci := 7) (fs := [.int 0, .int 0, .int 0, .int 0, .int 0, .null, .null, .null, .null, .null, .null, .null, .null, .null, .null]) (tf := tyX7) C rfl uw_X7 tyX7_ok gw_684 gw_268 gw_99 (fun j hj => nd_X7 ω j hj) (by decide) (by decide) dX1_init_26 ?_
  refine jv_name h (fun b35 M36 h => ?_)
  refine jv_dup C dX1_init_29 rfl ?_
  refine jv_iV (As := []) C lk_X1_17 dX1_init_30 rfl rfl (by decide) (by decide) (by decide) (Nat.le_of_ble_eq_true rfl) h (fun _ _ h => ct_X7_init h) (fun _ M37 h => ?_)
  refine jv_aast C dX1_init_33 h (fun M38 h => ?_)
  refine jv_iinc (v := 1) (lv' := [(1, .int (((((((0 + 1) + 1) + 1) + 1) + 1) + 1) + 1)), (0, .ref a0)]) C dX1_init_34 0 rfl (by decide) (by decide) rfl ?_
  refine jv_goto (tgt := 15) C dX1_init_37 (by decide) ?_
  refine jv_iload_n C dX1_init_15 rfl 0 rfl ?_
  refine jv_bipush (v := 12) C dX1_init_16 (by decide) ?_
  refine jv_icmp_gekf (tgt := 40) C dX1_init_18 (by decide) (by decide) ?_
  refine jv_aload_n C dX1_init_21 rfl 1 rfl ?_
  refine jv_getR C fa_X1_11 dX1_init_22 h (fun b39 h => ?_)
  refine jv_iload_n C dX1_init_25 rfl 0 rfl ?_
  refine jv_new (ci := 7) (fs := [.int 0, .int 0, .int 0, .int 0, .int 0, .null, .null, .null, .null, .null, .null, .null, .null, .null, .null]) (tf := tyX7) C rfl uw_X7 tyX7_ok gw_684 gw_268 gw_99 (fun j hj => nd_X7 ω j hj) (by decide) (by decide) dX1_init_26 ?_
  refine jv_name h (fun b40 M41 h => ?_)
  refine jv_dup C dX1_init_29 rfl ?_
  refine jv_iV (As := []) C lk_X1_17 dX1_init_30 rfl rfl (by decide) (by decide) (by decide) (Nat.le_of_ble_eq_true rfl) h (fun _ _ h => ct_X7_init h) (fun _ M42 h => ?_)
  refine jv_aast C dX1_init_33 h (fun M43 h => ?_)
  refine jv_iinc (v := 1) (lv' := [(1, .int ((((((((0 + 1) + 1) + 1) + 1) + 1) + 1) + 1) + 1)), (0, .ref a0)]) C dX1_init_34 0 rfl (by decide) (by decide) rfl ?_
  refine jv_goto (tgt := 15) C dX1_init_37 (by decide) ?_
  refine jv_iload_n C dX1_init_15 rfl 0 rfl ?_
  refine jv_bipush (v := 12) C dX1_init_16 (by decide) ?_
  refine jv_icmp_gekf (tgt := 40) C dX1_init_18 (by decide) (by decide) ?_
  refine jv_aload_n C dX1_init_21 rfl 1 rfl ?_
  refine jv_getR C fa_X1_11 dX1_init_22 h (fun b44 h => ?_)
  refine jv_iload_n C dX1_init_25 rfl 0 rfl ?_
  refine jv_new (ci := 7) (fs := [.int 0, .int 0, .int 0, .int 0, .int 0, .null, .null, .null, .null, .null, .null, .null, .null, .null, .null]) (tf := tyX7) C rfl uw_X7 tyX7_ok gw_684 gw_268 gw_99 (fun j hj => nd_X7 ω j hj) (by decide) (by decide) dX1_init_26 ?_
  refine jv_name h (fun b45 M46 h => ?_)
  refine jv_dup C dX1_init_29 rfl ?_
  refine jv_iV (As := []) C lk_X1_17 dX1_init_30 rfl rfl (by decide) (by decide) (by decide) (Nat.le_of_ble_eq_true rfl) h (fun _ _ h => ct_X7_init h) (fun _ M47 h => ?_)
  refine jv_aast C dX1_init_33 h (fun M48 h => ?_)
  refine jv_iinc (v := 1) (lv' := [(1, .int (((((((((0 + 1) + 1) + 1) + 1) + 1) + 1) + 1) + 1) + 1)), (0, .ref a0)]) C dX1_init_34 0 rfl (by decide) (by decide) rfl ?_
  refine jv_goto (tgt := 15) C dX1_init_37 (by decide) ?_
  refine jv_iload_n C dX1_init_15 rfl 0 rfl ?_
  refine jv_bipush (v := 12) C dX1_init_16 (by decide) ?_
  refine jv_icmp_gekf (tgt := 40) C dX1_init_18 (by decide) (by decide) ?_
  refine jv_aload_n C dX1_init_21 rfl 1 rfl ?_
  refine jv_getR C fa_X1_11 dX1_init_22 h (fun b49 h => ?_)
  refine jv_iload_n C dX1_init_25 rfl 0 rfl ?_
  refine jv_new (ci := 7) (fs := [.int 0, .int 0, .int 0, .int 0, .int 0, .null, .null, .null, .null, .null, .null, .null, .null, .null, .null]) (tf := tyX7) C rfl uw_X7 tyX7_ok gw_684 gw_268 gw_99 (fun j hj => nd_X7 ω j hj) (by decide) (by decide) dX1_init_26 ?_
  refine jv_name h (fun b50 M51 h => ?_)
  refine jv_dup C dX1_init_29 rfl ?_
  refine jv_iV (As := []) C lk_X1_17 dX1_init_30 rfl rfl (by decide) (by decide) (by decide) (Nat.le_of_ble_eq_true rfl) h (fun _ _ h => ct_X7_init h) (fun _ M52 h => ?_)
  refine jv_aast C dX1_init_33 h (fun M53 h => ?_)
  refine jv_iinc (v := 1) (lv' := [(1, .int ((((((((((0 + 1) + 1) + 1) + 1) + 1) + 1) + 1) + 1) + 1) + 1)), (0, .ref a0)]) C dX1_init_34 0 rfl (by decide) (by decide) rfl ?_
  refine jv_goto (tgt := 15) C dX1_init_37 (by decide) ?_
  refine jv_iload_n C dX1_init_15 rfl 0 rfl ?_
  refine jv_bipush (v := 12) C dX1_init_16 (by decide) ?_
  refine jv_icmp_gekf (tgt := 40) C dX1_init_18 (by decide) (by decide) ?_
  refine jv_aload_n C dX1_init_21 rfl 1 rfl ?_
  refine jv_getR C fa_X1_11 dX1_init_22 h (fun b54 h => ?_)
  refine jv_iload_n C dX1_init_25 rfl 0 rfl ?_
  refine jv_new (ci := 7) (fs := [.int 0, .int 0, .int 0, .int 0, .int 0, .null, .null, .null, .null, .null, .null, .null, .null, .null, .null]) (tf := tyX7) C rfl uw_X7 tyX7_ok gw_684 gw_268 gw_99 (fun j hj => nd_X7 ω j hj) (by decide) (by decide) dX1_init_26 ?_
  refine jv_name h (fun b55 M56 h => ?_)
  refine jv_dup C dX1_init_29 rfl ?_
  refine jv_iV (As := []) C lk_X1_17 dX1_init_30 rfl rfl (by decide) (by decide) (by decide) (Nat.le_of_ble_eq_true rfl) h (fun _ _ h => ct_X7_init h) (fun _ M57 h => ?_)
  refine jv_aast C dX1_init_33 h (fun M58 h => ?_)
  refine jv_iinc (v := 1) (lv' := [(1, .int (((((((((((0 + 1) + 1) + 1) + 1) + 1) + 1) + 1) + 1) + 1) + 1) + 1)), (0, .ref a0)]) C dX1_init_34 0 rfl (by decide) (by decide) rfl ?_
  refine jv_goto (tgt := 15) C dX1_init_37 (by decide) ?_
  refine jv_iload_n C dX1_init_15 rfl 0 rfl ?_
  refine jv_bipush (v := 12) C dX1_init_16 (by decide) ?_
  refine jv_icmp_gekf (tgt := 40) C dX1_init_18 (by decide) (by decide) ?_
  refine jv_aload_n C dX1_init_21 rfl 1 rfl ?_
  refine jv_getR C fa_X1_11 dX1_init_22 h (fun b59 h => ?_)
  refine jv_iload_n C dX1_init_25 rfl 0 rfl ?_
  refine jv_new (ci := 7) (fs := [.int 0, .int 0, .int 0, .int 0, .int 0, .null, .null, .null, .null, .null, .null, .null, .null, .null, .null]) (tf := tyX7) C rfl uw_X7 tyX7_ok gw_684 gw_268 gw_99 (fun j hj => nd_X7 ω j hj) (by decide) (by decide) dX1_init_26 ?_
  refine jv_name h (fun b60 M61 h => ?_)
  refine jv_dup C dX1_init_29 rfl ?_
  refine jv_iV (As := []) C lk_X1_17 dX1_init_30 rfl rfl (by decide) (by decide) (by decide) (Nat.le_of_ble_eq_true rfl) h (fun _ _ h => ct_X7_init h) (fun _ M62 h => ?_)
  refine jv_aast C dX1_init_33 h (fun M63 h => ?_)
  refine jv_iinc (v := 1) (lv' := [(1, .int ((((((((((((0 + 1) + 1) + 1) + 1) + 1) + 1) + 1) + 1) + 1) + 1) + 1) + 1)), (0, .ref a0)]) C dX1_init_34 0 rfl (by decide) (by decide) rfl ?_
  refine jv_goto (tgt := 15) C dX1_init_37 (by decide) ?_
  refine jv_iload_n C dX1_init_15 rfl 0 rfl ?_
  refine jv_bipush (v := 12) C dX1_init_16 (by decide) ?_
  refine jv_icmp_gekt (tgt := 40) C dX1_init_18 (by decide) (by decide) ?_
  exact jv_vret C hr dX1_init_40 h
theorem dX1_pop_0 : decode cX1_pop 0 = .ok (.aload_n 0, 1) := by decide +kernel
theorem dX1_pop_1 : decode cX1_pop 1 = .ok (.getfield 22, 3) := by decide +kernel
theorem dX1_pop_4 : decode cX1_pop 4 = .ok (.ifCond .ne 5, 3) := by decide +kernel
theorem dX1_pop_7 : decode cX1_pop 7 = .ok (.iconst 0, 1) := by decide +kernel
theorem dX1_pop_8 : decode cX1_pop 8 = .ok (.ireturn, 1) := by decide +kernel
theorem dX1_pop_9 : decode cX1_pop 9 = .ok (.aload_n 0, 1) := by decide +kernel
theorem dX1_pop_10 : decode cX1_pop 10 = .ok (.dup, 1) := by decide +kernel
theorem dX1_pop_11 : decode cX1_pop 11 = .ok (.getfield 22, 3) := by decide +kernel
theorem dX1_pop_14 : decode cX1_pop 14 = .ok (.iconst 1, 1) := by decide +kernel
theorem dX1_pop_15 : decode cX1_pop 15 = .ok (.isub, 1) := by decide +kernel
theorem dX1_pop_16 : decode cX1_pop 16 = .ok (.putfield 22, 3) := by decide +kernel
theorem dX1_pop_19 : decode cX1_pop 19 = .ok (.aload_n 1, 1) := by decide +kernel
theorem dX1_pop_20 : decode cX1_pop 20 = .ok (.aload_n 0, 1) := by decide +kernel
theorem dX1_pop_21 : decode cX1_pop 21 = .ok (.getfield 11, 3) := by decide +kernel
theorem dX1_pop_24 : decode cX1_pop 24 = .ok (.aload_n 0, 1) := by decide +kernel
theorem dX1_pop_25 : decode cX1_pop 25 = .ok (.getfield 18, 3) := by decide +kernel
theorem dX1_pop_28 : decode cX1_pop 28 = .ok (.aload_n 0, 1) := by decide +kernel
theorem dX1_pop_29 : decode cX1_pop 29 = .ok (.getfield 22, 3) := by decide +kernel
theorem dX1_pop_32 : decode cX1_pop 32 = .ok (.iadd, 1) := by decide +kernel
theorem dX1_pop_33 : decode cX1_pop 33 = .ok (.bipush 12, 2) := by decide +kernel
theorem dX1_pop_35 : decode cX1_pop 35 = .ok (.invokestatic 25, 3) := by decide +kernel
theorem dX1_pop_38 : decode cX1_pop 38 = .ok (.aaload, 1) := by decide +kernel
theorem dX1_pop_39 : decode cX1_pop 39 = .ok (.invokevirtual 31, 3) := by decide +kernel
theorem dX1_pop_42 : decode cX1_pop 42 = .ok (.iconst 1, 1) := by decide +kernel
theorem dX1_pop_43 : decode cX1_pop 43 = .ok (.ireturn, 1) := by decide +kernel
def fn_X1_pop (N : Nat) (M : Mem) (a0 : Nat) (a1 : Nat) : Option (Int32 × Mem) :=
  (mm_gI M a0 1 2).bind fun v1 =>
  if v1 = 0 then
    some (0, M)
  else
    (mm_gI M a0 1 2).bind fun v2 =>
    (mm_pV M a0 1 2 (.int (v2 - 1))).bind fun M3 =>
    (mm_gR M3 a0 1 0).bind fun b4 =>
    (mm_gI M3 a0 1 1).bind fun v5 =>
    (mm_gI M3 a0 1 2).bind fun v6 =>
    mm_b2 (fn_J9_floorMod_7cf53 N M3 ((v5 + v6)) 12) fun v8 M7 =>
    (mm_aR M7 b4 v8).bind fun b9 =>
    (mm_ck M7 a1 7).bind fun _ => mm_b2 (fn_X7_copyFrom N M7 a1 b9) fun _ M10 =>
    some (1, M10)
set_option maxRecDepth 100000 in
set_option maxHeartbeats 4000000 in
theorem ct_X1_pop {l : Launch} {ω : Wd} {k N : Nat} {M : Mem} {a0 : Nat} {a1 : Nat} {r : Int32} {M' : Mem} (h : fn_X1_pop N M a0 a1 = some (r, M')) : CM l ω k yX1_pop cX1_pop 2 (some .boolean) 3 0 0 [.ref a0, .ref a1] M (some (.int r)) M' := by
  refine CM.of (by decide) (Nat.le_of_ble_eq_true rfl) fun Γ hl C hr hi => ?_
  subst hl
  unfold fn_X1_pop at h
  refine jv_aload_n C dX1_pop_0 rfl 0 rfl ?_
  refine jv_getI C fa_X1_22 dX1_pop_1 h (fun v1 h => ?_)
  refine jv_if_ne (tgt := 9) C dX1_pop_4 (by decide) h (fun h => ?_) (fun h => ?_)
  · refine jv_aload_n C dX1_pop_9 rfl 0 rfl ?_
    refine jv_dup C dX1_pop_10 rfl ?_
    refine jv_getI C fa_X1_22 dX1_pop_11 h (fun v2 h => ?_)
    refine jv_iconst (v := 1) C dX1_pop_14 (by decide) ?_
    refine jv_isub C dX1_pop_15 ?_
    refine jv_putI C fp_X1_22 dX1_pop_16 h (fun M3 h => ?_)
    refine jv_aload_n C dX1_pop_19 rfl 1 rfl ?_
    refine jv_aload_n C dX1_pop_20 rfl 0 rfl ?_
    refine jv_getR C fa_X1_11 dX1_pop_21 h (fun b4 h => ?_)
    refine jv_aload_n C dX1_pop_24 rfl 0 rfl ?_
    refine jv_getI C fa_X1_18 dX1_pop_25 h (fun v5 h => ?_)
    refine jv_aload_n C dX1_pop_28 rfl 0 rfl ?_
    refine jv_getI C fa_X1_22 dX1_pop_29 h (fun v6 h => ?_)
    refine jv_iadd C dX1_pop_32 ?_
    refine jv_bipush (v := 12) C dX1_pop_33 (by decide) ?_
    refine jv_sI0 (As := [.int (v5 + v6), .int 12]) C lk_X1_25 dX1_pop_35 rfl rfl (by decide) (by decide) (by decide) (Nat.le_of_ble_eq_true rfl) h (fun _ _ h => ct_J9_floorMod_7cf53 h) (fun v8 M7 h => ?_)
    refine jv_aald C dX1_pop_38 h (fun b9 h => ?_)
    refine jv_vV0 (As := [.ref b9]) C lk_X1_31 rfl dX1_pop_39 rfl rfl (by decide) (by decide) (by decide) (Nat.le_of_ble_eq_true rfl) h (fun _ _ h => ct_X7_copyFrom h) (fun _ M10 h => ?_)
    refine jv_iconst (v := 1) C dX1_pop_42 (by decide) ?_
    exact jv_zretc C hr (Or.inr rfl) dX1_pop_43 h
  · refine jv_iconst (v := 0) C dX1_pop_7 (by decide) ?_
    exact jv_zretc C hr (Or.inl rfl) dX1_pop_8 h
theorem dX1_push_0 : decode cX1_push 0 = .ok (.aload_n 0, 1) := by decide +kernel
theorem dX1_push_1 : decode cX1_push 1 = .ok (.getfield 11, 3) := by decide +kernel
theorem dX1_push_4 : decode cX1_push 4 = .ok (.aload_n 0, 1) := by decide +kernel
theorem dX1_push_5 : decode cX1_push 5 = .ok (.getfield 18, 3) := by decide +kernel
theorem dX1_push_8 : decode cX1_push 8 = .ok (.aload_n 0, 1) := by decide +kernel
theorem dX1_push_9 : decode cX1_push 9 = .ok (.getfield 22, 3) := by decide +kernel
theorem dX1_push_12 : decode cX1_push 12 = .ok (.iadd, 1) := by decide +kernel
theorem dX1_push_13 : decode cX1_push 13 = .ok (.bipush 12, 2) := by decide +kernel
theorem dX1_push_15 : decode cX1_push 15 = .ok (.invokestatic 25, 3) := by decide +kernel
theorem dX1_push_18 : decode cX1_push 18 = .ok (.aaload, 1) := by decide +kernel
theorem dX1_push_19 : decode cX1_push 19 = .ok (.aload_n 1, 1) := by decide +kernel
theorem dX1_push_20 : decode cX1_push 20 = .ok (.invokevirtual 31, 3) := by decide +kernel
theorem dX1_push_23 : decode cX1_push 23 = .ok (.aload_n 0, 1) := by decide +kernel
theorem dX1_push_24 : decode cX1_push 24 = .ok (.getfield 22, 3) := by decide +kernel
theorem dX1_push_27 : decode cX1_push 27 = .ok (.bipush 12, 2) := by decide +kernel
theorem dX1_push_29 : decode cX1_push 29 = .ok (.if_icmp .ge 16, 3) := by decide +kernel
theorem dX1_push_32 : decode cX1_push 32 = .ok (.aload_n 0, 1) := by decide +kernel
theorem dX1_push_33 : decode cX1_push 33 = .ok (.dup, 1) := by decide +kernel
theorem dX1_push_34 : decode cX1_push 34 = .ok (.getfield 22, 3) := by decide +kernel
theorem dX1_push_37 : decode cX1_push 37 = .ok (.iconst 1, 1) := by decide +kernel
theorem dX1_push_38 : decode cX1_push 38 = .ok (.iadd, 1) := by decide +kernel
theorem dX1_push_39 : decode cX1_push 39 = .ok (.putfield 22, 3) := by decide +kernel
theorem dX1_push_42 : decode cX1_push 42 = .ok (.goto 16, 3) := by decide +kernel
theorem dX1_push_45 : decode cX1_push 45 = .ok (.aload_n 0, 1) := by decide +kernel
theorem dX1_push_46 : decode cX1_push 46 = .ok (.aload_n 0, 1) := by decide +kernel
theorem dX1_push_47 : decode cX1_push 47 = .ok (.getfield 18, 3) := by decide +kernel
theorem dX1_push_50 : decode cX1_push 50 = .ok (.iconst 1, 1) := by decide +kernel
theorem dX1_push_51 : decode cX1_push 51 = .ok (.iadd, 1) := by decide +kernel
theorem dX1_push_52 : decode cX1_push 52 = .ok (.bipush 12, 2) := by decide +kernel
theorem dX1_push_54 : decode cX1_push 54 = .ok (.irem, 1) := by decide +kernel
theorem dX1_push_55 : decode cX1_push 55 = .ok (.putfield 18, 3) := by decide +kernel
theorem dX1_push_58 : decode cX1_push 58 = .ok (.return_, 1) := by decide +kernel
def fn_X1_push (N : Nat) (M : Mem) (a0 : Nat) (a1 : Nat) : Option (Unit × Mem) :=
  (mm_gR M a0 1 0).bind fun b1 =>
  (mm_gI M a0 1 1).bind fun v2 =>
  (mm_gI M a0 1 2).bind fun v3 =>
  mm_b2 (fn_J9_floorMod_7cf53 N M ((v2 + v3)) 12) fun v5 M4 =>
  (mm_aR M4 b1 v5).bind fun b6 =>
  (mm_ck M4 b6 7).bind fun _ => mm_b2 (fn_X7_copyFrom N M4 b6 a1) fun _ M7 =>
  (mm_gI M7 a0 1 2).bind fun v8 =>
  if 12 ≤ v8 then
    (mm_gI M7 a0 1 1).bind fun v9 =>
    (mm_rI (v9 + 1) 12).bind fun v10 =>
    (mm_pV M7 a0 1 1 (.int v10)).bind fun M11 =>
    some ((), M11)
  else
    (mm_gI M7 a0 1 2).bind fun v12 =>
    (mm_pV M7 a0 1 2 (.int (v12 + 1))).bind fun M13 =>
    some ((), M13)
set_option maxRecDepth 100000 in
set_option maxHeartbeats 4000000 in
theorem ct_X1_push {l : Launch} {ω : Wd} {k N : Nat} {M : Mem} {a0 : Nat} {a1 : Nat} {r : Unit} {M' : Mem} (h : fn_X1_push N M a0 a1 = some (r, M')) : CM l ω k yX1_push cX1_push 2 none 3 0 0 [.ref a0, .ref a1] M none M' := by
  refine CM.of (by decide) (Nat.le_of_ble_eq_true rfl) fun Γ hl C hr hi => ?_
  subst hl
  unfold fn_X1_push at h
  refine jv_aload_n C dX1_push_0 rfl 0 rfl ?_
  refine jv_getR C fa_X1_11 dX1_push_1 h (fun b1 h => ?_)
  refine jv_aload_n C dX1_push_4 rfl 0 rfl ?_
  refine jv_getI C fa_X1_18 dX1_push_5 h (fun v2 h => ?_)
  refine jv_aload_n C dX1_push_8 rfl 0 rfl ?_
  refine jv_getI C fa_X1_22 dX1_push_9 h (fun v3 h => ?_)
  refine jv_iadd C dX1_push_12 ?_
  refine jv_bipush (v := 12) C dX1_push_13 (by decide) ?_
  refine jv_sI0 (As := [.int (v2 + v3), .int 12]) C lk_X1_25 dX1_push_15 rfl rfl (by decide) (by decide) (by decide) (Nat.le_of_ble_eq_true rfl) h (fun _ _ h => ct_J9_floorMod_7cf53 h) (fun v5 M4 h => ?_)
  refine jv_aald C dX1_push_18 h (fun b6 h => ?_)
  refine jv_aload_n C dX1_push_19 rfl 1 rfl ?_
  refine jv_vV0 (As := [.ref a1]) C lk_X1_31 rfl dX1_push_20 rfl rfl (by decide) (by decide) (by decide) (Nat.le_of_ble_eq_true rfl) h (fun _ _ h => ct_X7_copyFrom h) (fun _ M7 h => ?_)
  refine jv_aload_n C dX1_push_23 rfl 0 rfl ?_
  refine jv_getI C fa_X1_22 dX1_push_24 h (fun v8 h => ?_)
  refine jv_bipush (v := 12) C dX1_push_27 (by decide) ?_
  refine jv_icmp_ge (tgt := 45) C dX1_push_29 (by decide) h (fun h => ?_) (fun h => ?_)
  · refine jv_aload_n C dX1_push_45 rfl 0 rfl ?_
    refine jv_aload_n C dX1_push_46 rfl 0 rfl ?_
    refine jv_getI C fa_X1_18 dX1_push_47 h (fun v9 h => ?_)
    refine jv_iconst (v := 1) C dX1_push_50 (by decide) ?_
    refine jv_iadd C dX1_push_51 ?_
    refine jv_bipush (v := 12) C dX1_push_52 (by decide) ?_
    refine jv_irem C dX1_push_54 h (fun v10 h => ?_)
    refine jv_putI C fp_X1_18 dX1_push_55 h (fun M11 h => ?_)
    exact jv_vret C hr dX1_push_58 h
  · refine jv_aload_n C dX1_push_32 rfl 0 rfl ?_
    refine jv_dup C dX1_push_33 rfl ?_
    refine jv_getI C fa_X1_22 dX1_push_34 h (fun v12 h => ?_)
    refine jv_iconst (v := 1) C dX1_push_37 (by decide) ?_
    refine jv_iadd C dX1_push_38 ?_
    refine jv_putI C fp_X1_22 dX1_push_39 h (fun M13 h => ?_)
    refine jv_goto (tgt := 58) C dX1_push_42 (by decide) ?_
    exact jv_vret C hr dX1_push_58 h
