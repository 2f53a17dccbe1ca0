theorem dX10_within_0 : decode cX10_within 0 = .ok (.lload_n 0, 1) := by decide +kernel
theorem dX10_within_1 : decode cX10_within 1 = .ok (.lload_n 2, 1) := by decide +kernel
theorem dX10_within_2 : decode cX10_within 2 = .ok (.lcmp, 1) := by decide +kernel
theorem dX10_within_3 : decode cX10_within 3 = .ok (.ifCond .lt 14, 3) := by decide +kernel
theorem dX10_within_6 : decode cX10_within 6 = .ok (.lload_n 0, 1) := by decide +kernel
theorem dX10_within_7 : decode cX10_within 7 = .ok (.lload 4, 2) := by decide +kernel
theorem dX10_within_9 : decode cX10_within 9 = .ok (.lcmp, 1) := by decide +kernel
theorem dX10_within_10 : decode cX10_within 10 = .ok (.ifCond .gt 7, 3) := by decide +kernel
theorem dX10_within_13 : decode cX10_within 13 = .ok (.iconst 1, 1) := by decide +kernel
theorem dX10_within_14 : decode cX10_within 14 = .ok (.goto 4, 3) := by decide +kernel
theorem dX10_within_17 : decode cX10_within 17 = .ok (.iconst 0, 1) := by decide +kernel
theorem dX10_within_18 : decode cX10_within 18 = .ok (.ireturn, 1) := by decide +kernel
def fn_X10_within (N : Nat) (M : Mem) (y0 : Int64) (y2 : Int64) (y4 : Int64) : Option (Int32 × Mem) :=
  if (lg_cmp y0 y2) < 0 then
    some (0, M)
  else
    if 0 < (lg_cmp y0 y4) then
      some (0, M)
    else
      some (1, M)
set_option maxRecDepth 100000 in
set_option maxHeartbeats 4000000 in
theorem ct_X10_within {l : Launch} {ω : Wd} {k N : Nat} {M : Mem} {y0 : Int64} {y2 : Int64} {y4 : Int64} {r : Int32} {M' : Mem} (h : fn_X10_within N M y0 y2 y4 = some (r, M')) : CM l ω k yX10_within cX10_within 6 (some .boolean) 0 0 0 [.long y0, .long y2, .long y4] M (some (.int r)) M' := by
  refine CM.of (by decide) (Nat.le_of_ble_eq_true rfl) fun Γ hl C hr hi => ?_
  subst hl
  unfold fn_X10_within at h
  refine jv_lload_n C dX10_within_0 rfl 0 rfl ?_
  refine jv_lload_n C dX10_within_1 rfl 1 rfl ?_
  refine jv_lcmp C dX10_within_2 ?_
  refine jv_if_lt (tgt := 17) C dX10_within_3 (by decide) h (fun h => ?_) (fun h => ?_)
  · refine jv_iconst (v := 0) C dX10_within_17 (by decide) ?_
    exact jv_zretc C hr (Or.inl rfl) dX10_within_18 h
  · refine jv_lload_n C dX10_within_6 rfl 0 rfl ?_
    refine jv_lload C dX10_within_7 2 rfl ?_
    refine jv_lcmp C dX10_within_9 ?_
    refine jv_if_gt (tgt := 17) C dX10_within_10 (by decide) h (fun h => ?_) (fun h => ?_)
    · refine jv_iconst (v := 0) C dX10_within_17 (by decide) ?_
      exact jv_zretc C hr (Or.inl rfl) dX10_within_18 h
    · refine jv_iconst (v := 1) C dX10_within_13 (by decide) ?_
      refine jv_goto (tgt := 18) C dX10_within_14 (by decide) ?_
      exact jv_zretc C hr (Or.inr rfl) dX10_within_18 h
theorem dX10_isCoin_0 : decode cX10_isCoin 0 = .ok (.iload_n 0, 1) := by decide +kernel
theorem dX10_isCoin_1 : decode cX10_isCoin 1 = .ok (.i2l, 1) := by decide +kernel
theorem dX10_isCoin_2 : decode cX10_isCoin 2 = .ok (.lconst 1, 1) := by decide +kernel
theorem dX10_isCoin_3 : decode cX10_isCoin 3 = .ok (.ldc2_w 163, 3) := by decide +kernel
theorem dX10_isCoin_6 : decode cX10_isCoin 6 = .ok (.invokestatic 89, 3) := by decide +kernel
theorem dX10_isCoin_9 : decode cX10_isCoin 9 = .ok (.ifCond .eq 19, 3) := by decide +kernel
theorem dX10_isCoin_12 : decode cX10_isCoin 12 = .ok (.iload_n 1, 1) := by decide +kernel
theorem dX10_isCoin_13 : decode cX10_isCoin 13 = .ok (.i2l, 1) := by decide +kernel
theorem dX10_isCoin_14 : decode cX10_isCoin 14 = .ok (.lconst 0, 1) := by decide +kernel
theorem dX10_isCoin_15 : decode cX10_isCoin 15 = .ok (.ldc2_w 165, 3) := by decide +kernel
theorem dX10_isCoin_18 : decode cX10_isCoin 18 = .ok (.invokestatic 89, 3) := by decide +kernel
theorem dX10_isCoin_21 : decode cX10_isCoin 21 = .ok (.ifCond .eq 7, 3) := by decide +kernel
theorem dX10_isCoin_24 : decode cX10_isCoin 24 = .ok (.iconst 1, 1) := by decide +kernel
theorem dX10_isCoin_25 : decode cX10_isCoin 25 = .ok (.goto 4, 3) := by decide +kernel
theorem dX10_isCoin_28 : decode cX10_isCoin 28 = .ok (.iconst 0, 1) := by decide +kernel
theorem dX10_isCoin_29 : decode cX10_isCoin 29 = .ok (.ireturn, 1) := by decide +kernel
def fn_X10_isCoin (N : Nat) (M : Mem) (x0 : Int32) (x1 : Int32) : Option (Int32 × Mem) :=
  mm_b2 (fn_X10_within N M ((Int32.toInt64 x0)) 1 4000) fun v2 M1 =>
  if v2 = 0 then
    some (0, M1)
  else
    mm_b2 (fn_X10_within N M1 ((Int32.toInt64 x1)) 0 9999) fun v4 M3 =>
    if v4 = 0 then
      some (0, M3)
    else
      some (1, M3)
set_option maxRecDepth 100000 in
set_option maxHeartbeats 4000000 in
theorem ct_X10_isCoin {l : Launch} {ω : Wd} {k N : Nat} {M : Mem} {x0 : Int32} {x1 : Int32} {r : Int32} {M' : Mem} (h : fn_X10_isCoin N M x0 x1 = some (r, M')) : CM l ω k yX10_isCoin cX10_isCoin 2 (some .boolean) 1 0 0 [.int x0, .int x1] M (some (.int r)) M' := by
  refine CM.of (by decide) (Nat.le_of_ble_eq_true rfl) fun Γ hl C hr hi => ?_
  subst hl
  unfold fn_X10_isCoin at h
  refine jv_iload_n C dX10_isCoin_0 rfl 0 rfl ?_
  refine jv_i2l C dX10_isCoin_1 ?_
  refine jv_lconst (v := 1) C dX10_isCoin_2 (by decide) ?_
  refine jv_ldc2 C gw_1554 dX10_isCoin_3 ?_
  refine jv_sI0 (As := [.long (Int32.toInt64 x0), .long 1, .long 4000]) C lk_X10_89 dX10_isCoin_6 rfl rfl (by decide) (by decide) (by decide) (Nat.le_of_ble_eq_true rfl) h (fun _ _ h => ct_X10_within h) (fun v2 M1 h => ?_)
  refine jv_if_eq (tgt := 28) C dX10_isCoin_9 (by decide) h (fun h => ?_) (fun h => ?_)
  · refine jv_iconst (v := 0) C dX10_isCoin_28 (by decide) ?_
    exact jv_zretc C hr (Or.inl rfl) dX10_isCoin_29 h
  · refine jv_iload_n C dX10_isCoin_12 rfl 1 rfl ?_
    refine jv_i2l C dX10_isCoin_13 ?_
    refine jv_lconst (v := 0) C dX10_isCoin_14 (by decide) ?_
    refine jv_ldc2 C gw_1555 dX10_isCoin_15 ?_
    refine jv_sI0 (As := [.long (Int32.toInt64 x1), .long 0, .long 9999]) C lk_X10_89 dX10_isCoin_18 rfl rfl (by decide) (by decide) (by decide) (Nat.le_of_ble_eq_true rfl) h (fun _ _ h => ct_X10_within h) (fun v4 M3 h => ?_)
    refine jv_if_eq (tgt := 28) C dX10_isCoin_21 (by decide) h (fun h => ?_) (fun h => ?_)
    · refine jv_iconst (v := 0) C dX10_isCoin_28 (by decide) ?_
      exact jv_zretc C hr (Or.inl rfl) dX10_isCoin_29 h
    · refine jv_iconst (v := 1) C dX10_isCoin_24 (by decide) ?_
      refine jv_goto (tgt := 29) C dX10_isCoin_25 (by decide) ?_
      exact jv_zretc C hr (Or.inr rfl) dX10_isCoin_29 h
theorem dX10_isType_0 : decode cX10_isType 0 = .ok (.iload_n 1, 1) := by decide +kernel
theorem dX10_isType_1 : decode cX10_isType 1 = .ok (.i2l, 1) := by decide +kernel
theorem dX10_isType_2 : decode cX10_isType 2 = .ok (.lconst 0, 1) := by decide +kernel
theorem dX10_isType_3 : decode cX10_isType 3 = .ok (.aload_n 0, 1) := by decide +kernel
theorem dX10_isType_4 : decode cX10_isType 4 = .ok (.getfield 13, 3) := by decide +kernel
theorem dX10_isType_7 : decode cX10_isType 7 = .ok (.iconst 0, 1) := by decide +kernel
theorem dX10_isType_8 : decode cX10_isType 8 = .ok (.iaload, 1) := by decide +kernel
theorem dX10_isType_9 : decode cX10_isType 9 = .ok (.iconst 1, 1) := by decide +kernel
theorem dX10_isType_10 : decode cX10_isType 10 = .ok (.isub, 1) := by decide +kernel
theorem dX10_isType_11 : decode cX10_isType 11 = .ok (.i2l, 1) := by decide +kernel
theorem dX10_isType_12 : decode cX10_isType 12 = .ok (.invokestatic 89, 3) := by decide +kernel
theorem dX10_isType_15 : decode cX10_isType 15 = .ok (.ireturn, 1) := by decide +kernel
def fn_X10_isType (N : Nat) (M : Mem) (a0 : Nat) (x1 : Int32) : Option (Int32 × Mem) :=
  (mm_gR M a0 10 10).bind fun b1 =>
  (mm_aI M b1 0 0).bind fun v2 =>
  mm_b2 (fn_X10_within N M ((Int32.toInt64 x1)) 0 ((Int32.toInt64 (v2 - 1)))) fun v4 M3 =>
  if v4 = 0 ∨ v4 = 1 then some (v4, M3) else none
set_option maxRecDepth 100000 in
set_option maxHeartbeats 4000000 in
theorem ct_X10_isType {l : Launch} {ω : Wd} {k N : Nat} {M : Mem} {a0 : Nat} {x1 : Int32} {r : Int32} {M' : Mem} (h : fn_X10_isType N M a0 x1 = some (r, M')) : CM l ω k yX10_isType cX10_isType 2 (some .boolean) 1 0 0 [.ref a0, .int x1] M (some (.int r)) M' := by
  refine CM.of (by decide) (Nat.le_of_ble_eq_true rfl) fun Γ hl C hr hi => ?_
  subst hl
  unfold fn_X10_isType at h
  refine jv_iload_n C dX10_isType_0 rfl 1 rfl ?_
  refine jv_i2l C dX10_isType_1 ?_
  refine jv_lconst (v := 0) C dX10_isType_2 (by decide) ?_
  refine jv_aload_n C dX10_isType_3 rfl 0 rfl ?_
  refine jv_getR C fa_X10_13 dX10_isType_4 h (fun b1 h => ?_)
  refine jv_iconst (v := 0) C dX10_isType_7 (by decide) ?_
  refine jv_iald C dX10_isType_8 h (fun v2 h => ?_)
  refine jv_iconst (v := 1) C dX10_isType_9 (by decide) ?_
  refine jv_isub C dX10_isType_10 ?_
  refine jv_i2l C dX10_isType_11 ?_
  refine jv_sI0 (As := [.long (Int32.toInt64 x1), .long 0, .long (Int32.toInt64 (v2 - 1))]) C lk_X10_89 dX10_isType_12 rfl rfl (by decide) (by decide) (by decide) (Nat.le_of_ble_eq_true rfl) h (fun _ _ h => ct_X10_within h) (fun v4 M3 h => ?_)
  exact jv_zret C hr dX10_isType_15 h
theorem dX10_keep_0 : decode cX10_keep 0 = .ok (.aload_n 0, 1) := by decide +kernel
theorem dX10_keep_1 : decode cX10_keep 1 = .ok (.getfield 160, 3) := by decide +kernel
theorem dX10_keep_4 : decode cX10_keep 4 = .ok (.bipush 12, 2) := by decide +kernel
theorem dX10_keep_6 : decode cX10_keep 6 = .ok (.if_icmp .ne 50, 3) := by decide +kernel
theorem dX10_keep_9 : decode cX10_keep 9 = .ok (.iconst 0, 1) := by decide +kernel
theorem dX10_keep_10 : decode cX10_keep 10 = .ok (.istore_n 1, 1) := by decide +kernel
theorem dX10_keep_11 : decode cX10_keep 11 = .ok (.iload_n 1, 1) := by decide +kernel
theorem dX10_keep_12 : decode cX10_keep 12 = .ok (.aload_n 0, 1) := by decide +kernel
theorem dX10_keep_13 : decode cX10_keep 13 = .ok (.getfield 32, 3) := by decide +kernel
theorem dX10_keep_16 : decode cX10_keep 16 = .ok (.arraylength, 1) := by decide +kernel
theorem dX10_keep_17 : decode cX10_keep 17 = .ok (.sipush 412, 3) := by decide +kernel
theorem dX10_keep_20 : decode cX10_keep 20 = .ok (.isub, 1) := by decide +kernel
theorem dX10_keep_21 : decode cX10_keep 21 = .ok (.if_icmp .ge 25, 3) := by decide +kernel
theorem dX10_keep_24 : decode cX10_keep 24 = .ok (.aload_n 0, 1) := by decide +kernel
theorem dX10_keep_25 : decode cX10_keep 25 = .ok (.getfield 32, 3) := by decide +kernel
theorem dX10_keep_28 : decode cX10_keep 28 = .ok (.iload_n 1, 1) := by decide +kernel
theorem dX10_keep_29 : decode cX10_keep 29 = .ok (.aload_n 0, 1) := by decide +kernel
theorem dX10_keep_30 : decode cX10_keep 30 = .ok (.getfield 32, 3) := by decide +kernel
theorem dX10_keep_33 : decode cX10_keep 33 = .ok (.iload_n 1, 1) := by decide +kernel
theorem dX10_keep_34 : decode cX10_keep 34 = .ok (.sipush 412, 3) := by decide +kernel
theorem dX10_keep_37 : decode cX10_keep 37 = .ok (.iadd, 1) := by decide +kernel
theorem dX10_keep_38 : decode cX10_keep 38 = .ok (.iaload, 1) := by decide +kernel
theorem dX10_keep_39 : decode cX10_keep 39 = .ok (.iastore, 1) := by decide +kernel
theorem dX10_keep_40 : decode cX10_keep 40 = .ok (.iinc 1 1, 3) := by decide +kernel
theorem dX10_keep_43 : decode cX10_keep 43 = .ok (.goto (-32), 3) := by decide +kernel
theorem dX10_keep_46 : decode cX10_keep 46 = .ok (.aload_n 0, 1) := by decide +kernel
theorem dX10_keep_47 : decode cX10_keep 47 = .ok (.dup, 1) := by decide +kernel
theorem dX10_keep_48 : decode cX10_keep 48 = .ok (.getfield 160, 3) := by decide +kernel
theorem dX10_keep_51 : decode cX10_keep 51 = .ok (.iconst 1, 1) := by decide +kernel
theorem dX10_keep_52 : decode cX10_keep 52 = .ok (.isub, 1) := by decide +kernel
theorem dX10_keep_53 : decode cX10_keep 53 = .ok (.putfield 160, 3) := by decide +kernel
theorem dX10_keep_56 : decode cX10_keep 56 = .ok (.iconst 0, 1) := by decide +kernel
theorem dX10_keep_57 : decode cX10_keep 57 = .ok (.istore_n 1, 1) := by decide +kernel
theorem dX10_keep_58 : decode cX10_keep 58 = .ok (.iload_n 1, 1) := by decide +kernel
theorem dX10_keep_59 : decode cX10_keep 59 = .ok (.sipush 412, 3) := by decide +kernel
theorem dX10_keep_62 : decode cX10_keep 62 = .ok (.if_icmp .ge 30, 3) := by decide +kernel
theorem dX10_keep_65 : decode cX10_keep 65 = .ok (.aload_n 0, 1) := by decide +kernel
theorem dX10_keep_66 : decode cX10_keep 66 = .ok (.getfield 32, 3) := by decide +kernel
theorem dX10_keep_69 : decode cX10_keep 69 = .ok (.sipush 412, 3) := by decide +kernel
theorem dX10_keep_72 : decode cX10_keep 72 = .ok (.aload_n 0, 1) := by decide +kernel
theorem dX10_keep_73 : decode cX10_keep 73 = .ok (.getfield 160, 3) := by decide +kernel
theorem dX10_keep_76 : decode cX10_keep 76 = .ok (.imul, 1) := by decide +kernel
theorem dX10_keep_77 : decode cX10_keep 77 = .ok (.iload_n 1, 1) := by decide +kernel
theorem dX10_keep_78 : decode cX10_keep 78 = .ok (.iadd, 1) := by decide +kernel
theorem dX10_keep_79 : decode cX10_keep 79 = .ok (.aload_n 0, 1) := by decide +kernel
theorem dX10_keep_80 : decode cX10_keep 80 = .ok (.getfield 29, 3) := by decide +kernel
theorem dX10_keep_83 : decode cX10_keep 83 = .ok (.iload_n 1, 1) := by decide +kernel
theorem dX10_keep_84 : decode cX10_keep 84 = .ok (.iaload, 1) := by decide +kernel
theorem dX10_keep_85 : decode cX10_keep 85 = .ok (.iastore, 1) := by decide +kernel
theorem dX10_keep_86 : decode cX10_keep 86 = .ok (.iinc 1 1, 3) := by decide +kernel
theorem dX10_keep_89 : decode cX10_keep 89 = .ok (.goto (-31), 3) := by decide +kernel
theorem dX10_keep_92 : decode cX10_keep 92 = .ok (.aload_n 0, 1) := by decide +kernel
theorem dX10_keep_93 : decode cX10_keep 93 = .ok (.dup, 1) := by decide +kernel
theorem dX10_keep_94 : decode cX10_keep 94 = .ok (.getfield 160, 3) := by decide +kernel
theorem dX10_keep_97 : decode cX10_keep 97 = .ok (.iconst 1, 1) := by decide +kernel
theorem dX10_keep_98 : decode cX10_keep 98 = .ok (.iadd, 1) := by decide +kernel
theorem dX10_keep_99 : decode cX10_keep 99 = .ok (.putfield 160, 3) := by decide +kernel
theorem dX10_keep_102 : decode cX10_keep 102 = .ok (.return_, 1) := by decide +kernel
def fn_X10_keep_58 (N : Nat) : Nat → Mem → Nat → Int32 → Option (Unit × Mem)
  | 0, _, _, _ => none
  | n + 1, M, a0, x1 =>
    if 412 ≤ x1 then
      (mm_gI M a0 10 18).bind fun v1 =>
      (mm_pV M a0 10 18 (.int (v1 + 1))).bind fun M2 =>
      some ((), M2)
    else
      (mm_gR M a0 10 17).bind fun b3 =>
      (mm_gI M a0 10 18).bind fun v4 =>
      (mm_gR M a0 10 16).bind fun b5 =>
      (mm_aI M b5 0 x1).bind fun v6 =>
      (mm_sI M b3 0 ((412 * v4) + x1) v6).bind fun M7 =>
      fn_X10_keep_58 N n M7 a0 ((x1 + 1))
set_option maxRecDepth 100000 in
set_option maxHeartbeats 4000000 in
theorem bk_X10_keep_58 {Γ : Gm} {ω : Wd} {k N : Nat} {r : Unit} {M' : Mem} (C : Cx Γ cX10_keep 2 RX10 ω 0 0 0) (hr : Γ.meth.sig.returnType = none) : ∀ (n : Nat) (M : Mem) (a0 : Nat) (x1 : Int32), fn_X10_keep_58 N n M a0 x1 = some (r, M') → JJ Γ (QF Γ ω k 0 0 none M') 2 ω k M 0 0 58 [(0, .ref a0), (1, .int x1)] [] := by
  intro n
  induction n with
  | zero => intro M a0 x1 h; exact jv_no h
  | succ n ih =>
    intro M a0 x1 h
    rw [fn_X10_keep_58.eq_2] at h
    refine jv_iload_n C dX10_keep_58 rfl 1 rfl ?_
    refine jv_sipush (v := 412) C dX10_keep_59 (by decide) ?_
    refine jv_icmp_ge (tgt := 92) C dX10_keep_62 (by decide) h (fun h => ?_) (fun h => ?_)
    · refine jv_aload_n C dX10_keep_92 rfl 0 rfl ?_
      refine jv_dup C dX10_keep_93 rfl ?_
      refine jv_getI C fa_X10_160 dX10_keep_94 h (fun v1 h => ?_)
      refine jv_iconst (v := 1) C dX10_keep_97 (by decide) ?_
      refine jv_iadd C dX10_keep_98 ?_
      refine jv_putI C fp_X10_160 dX10_keep_99 h (fun M2 h => ?_)
      exact jv_vret C hr dX10_keep_102 h
    · refine jv_aload_n C dX10_keep_65 rfl 0 rfl ?_
      refine jv_getR C fa_X10_32 dX10_keep_66 h (fun b3 h => ?_)
      refine jv_sipush (v := 412) C dX10_keep_69 (by decide) ?_
      refine jv_aload_n C dX10_keep_72 rfl 0 rfl ?_
      refine jv_getI C fa_X10_160 dX10_keep_73 h (fun v4 h => ?_)
      refine jv_imul C dX10_keep_76 ?_
      refine jv_iload_n C dX10_keep_77 rfl 1 rfl ?_
      refine jv_iadd C dX10_keep_78 ?_
      refine jv_aload_n C dX10_keep_79 rfl 0 rfl ?_
      refine jv_getR C fa_X10_29 dX10_keep_80 h (fun b5 h => ?_)
      refine jv_iload_n C dX10_keep_83 rfl 1 rfl ?_
      refine jv_iald C dX10_keep_84 h (fun v6 h => ?_)
      refine jv_iast C dX10_keep_85 h (fun M7 h => ?_)
      refine jv_iinc (v := 1) (lv' := [(1, .int (x1 + 1)), (0, .ref a0)]) C dX10_keep_86 1 rfl (by decide) (by decide) rfl ?_
      refine jv_goto (tgt := 58) C dX10_keep_89 (by decide) ?_
      refine jv_sub [1, 0] rfl ?_
      exact ih _ _ _ h
def fn_X10_keep_56 (N : Nat) (M : Mem) (a0 : Nat) : Option (Unit × Mem) :=
  fn_X10_keep_58 N N M a0 0
set_option maxRecDepth 100000 in
set_option maxHeartbeats 4000000 in
theorem bk_X10_keep_56 {Γ : Gm} {ω : Wd} {k N : Nat} {r : Unit} {M' : Mem} (C : Cx Γ cX10_keep 2 RX10 ω 0 0 0) (hr : Γ.meth.sig.returnType = none) (M : Mem) (a0 : Nat) (h : fn_X10_keep_56 N M a0 = some (r, M')) : JJ Γ (QF Γ ω k 0 0 none M') 2 ω k M 0 0 56 [(0, .ref a0)] [] := by
  unfold fn_X10_keep_56 at h
  refine jv_iconst (v := 0) C dX10_keep_56 (by decide) ?_
  refine jv_istore_n (lv' := [(1, .int 0), (0, .ref a0)]) C dX10_keep_57 rfl (by decide) rfl ?_
  refine jv_sub [1, 0] rfl ?_
  exact bk_X10_keep_58 C hr _ _ _ _ h
def fn_X10_keep_11 (N : Nat) : Nat → Mem → Nat → Int32 → Option (Unit × Mem)
  | 0, _, _, _ => none
  | n + 1, M, a0, x1 =>
    (mm_gR M a0 10 17).bind fun b1 =>
    (mm_aN M b1).bind fun v2 =>
    if (v2 - 412) ≤ x1 then
      (mm_gI M a0 10 18).bind fun v3 =>
      (mm_pV M a0 10 18 (.int (v3 - 1))).bind fun M4 =>
      fn_X10_keep_56 N M4 a0
    else
      (mm_gR M a0 10 17).bind fun b5 =>
      (mm_gR M a0 10 17).bind fun b6 =>
      (mm_aI M b6 0 (x1 + 412)).bind fun v7 =>
      (mm_sI M b5 0 x1 v7).bind fun M8 =>
      fn_X10_keep_11 N n M8 a0 ((x1 + 1))
set_option maxRecDepth 100000 in
set_option maxHeartbeats 4000000 in
theorem bk_X10_keep_11 {Γ : Gm} {ω : Wd} {k N : Nat} {r : Unit} {M' : Mem} (C : Cx Γ cX10_keep 2 RX10 ω 0 0 0) (hr : Γ.meth.sig.returnType = none) : ∀ (n : Nat) (M : Mem) (a0 : Nat) (x1 : Int32), fn_X10_keep_11 N n M a0 x1 = some (r, M') → JJ Γ (QF Γ ω k 0 0 none M') 2 ω k M 0 0 11 [(0, .ref a0), (1, .int x1)] [] := by
  intro n
  induction n with
  | zero => intro M a0 x1 h; exact jv_no h
  | succ n ih =>
    intro M a0 x1 h
    rw [fn_X10_keep_11.eq_2] at h
    refine jv_iload_n C dX10_keep_11 rfl 1 rfl ?_
    refine jv_aload_n C dX10_keep_12 rfl 0 rfl ?_
    refine jv_getR C fa_X10_32 dX10_keep_13 h (fun b1 h => ?_)
    refine jv_alen C dX10_keep_16 h (fun v2 h => ?_)
    refine jv_sipush (v := 412) C dX10_keep_17 (by decide) ?_
    refine jv_isub C dX10_keep_20 ?_
    refine jv_icmp_ge (tgt := 46) C dX10_keep_21 (by decide) h (fun h => ?_) (fun h => ?_)
    · refine jv_aload_n C dX10_keep_46 rfl 0 rfl ?_
      refine jv_dup C dX10_keep_47 rfl ?_
      refine jv_getI C fa_X10_160 dX10_keep_48 h (fun v3 h => ?_)
      refine jv_iconst (v := 1) C dX10_keep_51 (by decide) ?_
      refine jv_isub C dX10_keep_52 ?_
      refine jv_putI C fp_X10_160 dX10_keep_53 h (fun M4 h => ?_)
      refine jv_sub [0] rfl ?_
      exact bk_X10_keep_56 C hr _ _ h
    · refine jv_aload_n C dX10_keep_24 rfl 0 rfl ?_
      refine jv_getR C fa_X10_32 dX10_keep_25 h (fun b5 h => ?_)
      refine jv_iload_n C dX10_keep_28 rfl 1 rfl ?_
      refine jv_aload_n C dX10_keep_29 rfl 0 rfl ?_
      refine jv_getR C fa_X10_32 dX10_keep_30 h (fun b6 h => ?_)
      refine jv_iload_n C dX10_keep_33 rfl 1 rfl ?_
      refine jv_sipush (v := 412) C dX10_keep_34 (by decide) ?_
      refine jv_iadd C dX10_keep_37 ?_
      refine jv_iald C dX10_keep_38 h (fun v7 h => ?_)
      refine jv_iast C dX10_keep_39 h (fun M8 h => ?_)
      refine jv_iinc (v := 1) (lv' := [(1, .int (x1 + 1)), (0, .ref a0)]) C dX10_keep_40 1 rfl (by decide) (by decide) rfl ?_
      refine jv_goto (tgt := 11) C dX10_keep_43 (by decide) ?_
      refine jv_sub [1, 0] rfl ?_
      exact ih _ _ _ h
def fn_X10_keep (N : Nat) (M : Mem) (a0 : Nat) : Option (Unit × Mem) :=
  (mm_gI M a0 10 18).bind fun v1 =>
  if v1 = 12 then
    fn_X10_keep_11 N N M a0 0
  else
    fn_X10_keep_56 N M a0
set_option maxRecDepth 100000 in
set_option maxHeartbeats 4000000 in
theorem ct_X10_keep {l : Launch} {ω : Wd} {k N : Nat} {M : Mem} {a0 : Nat} {r : Unit} {M' : Mem} (h : fn_X10_keep N M a0 = some (r, M')) : CM l ω k yX10_keep cX10_keep 2 none 0 0 0 [.ref a0] M none M' := by
  refine CM.of (by decide) (Nat.le_of_ble_eq_true rfl) fun Γ hl C hr hi => ?_
  subst hl
  unfold fn_X10_keep at h
  refine jv_aload_n C dX10_keep_0 rfl 0 rfl ?_
  refine jv_getI C fa_X10_160 dX10_keep_1 h (fun v1 h => ?_)
  refine jv_bipush (v := 12) C dX10_keep_4 (by decide) ?_
  refine jv_icmp_ne (tgt := 56) C dX10_keep_6 (by decide) h (fun h => ?_) (fun h => ?_)
  · exact bk_X10_keep_56 C hr _ _ h
  · refine jv_iconst (v := 0) C dX10_keep_9 (by decide) ?_
    refine jv_istore_n (lv' := [(1, .int 0), (0, .ref a0)]) C dX10_keep_10 rfl (by decide) rfl ?_
    refine jv_sub [1, 0] rfl ?_
    exact bk_X10_keep_11 C hr _ _ _ _ h
theorem dX10_addSample_0 : decode cX10_addSample 0 = .ok (.aload_n 0, 1) := by decide +kernel
theorem dX10_addSample_1 : decode cX10_addSample 1 = .ok (.iconst 0, 1) := by decide +kernel
theorem dX10_addSample_2 : decode cX10_addSample 2 = .ok (.putfield 58, 3) := by decide +kernel
theorem dX10_addSample_5 : decode cX10_addSample 5 = .ok (.iload_n 1, 1) := by decide +kernel
theorem dX10_addSample_6 : decode cX10_addSample 6 = .ok (.iload_n 2, 1) := by decide +kernel
theorem dX10_addSample_7 : decode cX10_addSample 7 = .ok (.invokestatic 208, 3) := by decide +kernel
theorem dX10_addSample_10 : decode cX10_addSample 10 = .ok (.ifCond .eq 16, 3) := by decide +kernel
theorem dX10_addSample_13 : decode cX10_addSample 13 = .ok (.iload_n 3, 1) := by decide +kernel
theorem dX10_addSample_14 : decode cX10_addSample 14 = .ok (.iconst (-1), 1) := by decide +kernel
theorem dX10_addSample_15 : decode cX10_addSample 15 = .ok (.if_icmp .eq 13, 3) := by decide +kernel
theorem dX10_addSample_18 : decode cX10_addSample 18 = .ok (.aload_n 0, 1) := by decide +kernel
theorem dX10_addSample_19 : decode cX10_addSample 19 = .ok (.iload_n 3, 1) := by decide +kernel
theorem dX10_addSample_20 : decode cX10_addSample 20 = .ok (.invokevirtual 170, 3) := by decide +kernel
theorem dX10_addSample_23 : decode cX10_addSample 23 = .ok (.ifCond .ne 5, 3) := by decide +kernel
theorem dX10_addSample_26 : decode cX10_addSample 26 = .ok (.iconst (-1), 1) := by decide +kernel
theorem dX10_addSample_27 : decode cX10_addSample 27 = .ok (.ireturn, 1) := by decide +kernel
theorem dX10_addSample_28 : decode cX10_addSample 28 = .ok (.aload_n 0, 1) := by decide +kernel
theorem dX10_addSample_29 : decode cX10_addSample 29 = .ok (.getfield 29, 3) := by decide +kernel
theorem dX10_addSample_32 : decode cX10_addSample 32 = .ok (.bipush 9, 2) := by decide +kernel
theorem dX10_addSample_34 : decode cX10_addSample 34 = .ok (.iaload, 1) := by decide +kernel
theorem dX10_addSample_35 : decode cX10_addSample 35 = .ok (.bipush 40, 2) := by decide +kernel
theorem dX10_addSample_37 : decode cX10_addSample 37 = .ok (.if_icmp .ne 6, 3) := by decide +kernel
theorem dX10_addSample_40 : decode cX10_addSample 40 = .ok (.bipush (-3), 2) := by decide +kernel
theorem dX10_addSample_42 : decode cX10_addSample 42 = .ok (.ireturn, 1) := by decide +kernel
theorem dX10_addSample_43 : decode cX10_addSample 43 = .ok (.aload_n 0, 1) := by decide +kernel
theorem dX10_addSample_44 : decode cX10_addSample 44 = .ok (.invokevirtual 271, 3) := by decide +kernel
theorem dX10_addSample_47 : decode cX10_addSample 47 = .ok (.sipush 292, 3) := by decide +kernel
theorem dX10_addSample_50 : decode cX10_addSample 50 = .ok (.iconst 3, 1) := by decide +kernel
theorem dX10_addSample_51 : decode cX10_addSample 51 = .ok (.aload_n 0, 1) := by decide +kernel
theorem dX10_addSample_52 : decode cX10_addSample 52 = .ok (.getfield 29, 3) := by decide +kernel
theorem dX10_addSample_55 : decode cX10_addSample 55 = .ok (.bipush 9, 2) := by decide +kernel
theorem dX10_addSample_57 : decode cX10_addSample 57 = .ok (.iaload, 1) := by decide +kernel
theorem dX10_addSample_58 : decode cX10_addSample 58 = .ok (.imul, 1) := by decide +kernel
theorem dX10_addSample_59 : decode cX10_addSample 59 = .ok (.iadd, 1) := by decide +kernel
theorem dX10_addSample_60 : decode cX10_addSample 60 = .ok (.istore 4, 2) := by decide +kernel
theorem dX10_addSample_62 : decode cX10_addSample 62 = .ok (.aload_n 0, 1) := by decide +kernel
theorem dX10_addSample_63 : decode cX10_addSample 63 = .ok (.getfield 29, 3) := by decide +kernel
theorem dX10_addSample_66 : decode cX10_addSample 66 = .ok (.iload 4, 2) := by decide +kernel
theorem dX10_addSample_68 : decode cX10_addSample 68 = .ok (.iload_n 1, 1) := by decide +kernel
theorem dX10_addSample_69 : decode cX10_addSample 69 = .ok (.iastore, 1) := by decide +kernel
theorem dX10_addSample_70 : decode cX10_addSample 70 = .ok (.aload_n 0, 1) := by decide +kernel
theorem dX10_addSample_71 : decode cX10_addSample 71 = .ok (.getfield 29, 3) := by decide +kernel
theorem dX10_addSample_74 : decode cX10_addSample 74 = .ok (.iload 4, 2) := by decide +kernel
theorem dX10_addSample_76 : decode cX10_addSample 76 = .ok (.iconst 1, 1) := by decide +kernel
theorem dX10_addSample_77 : decode cX10_addSample 77 = .ok (.iadd, 1) := by decide +kernel
theorem dX10_addSample_78 : decode cX10_addSample 78 = .ok (.iload_n 2, 1) := by decide +kernel
theorem dX10_addSample_79 : decode cX10_addSample 79 = .ok (.iastore, 1) := by decide +kernel
theorem dX10_addSample_80 : decode cX10_addSample 80 = .ok (.aload_n 0, 1) := by decide +kernel
theorem dX10_addSample_81 : decode cX10_addSample 81 = .ok (.getfield 29, 3) := by decide +kernel
theorem dX10_addSample_84 : decode cX10_addSample 84 = .ok (.iload 4, 2) := by decide +kernel
theorem dX10_addSample_86 : decode cX10_addSample 86 = .ok (.iconst 2, 1) := by decide +kernel
theorem dX10_addSample_87 : decode cX10_addSample 87 = .ok (.iadd, 1) := by decide +kernel
theorem dX10_addSample_88 : decode cX10_addSample 88 = .ok (.iload_n 3, 1) := by decide +kernel
theorem dX10_addSample_89 : decode cX10_addSample 89 = .ok (.iastore, 1) := by decide +kernel
theorem dX10_addSample_90 : decode cX10_addSample 90 = .ok (.aload_n 0, 1) := by decide +kernel
theorem dX10_addSample_91 : decode cX10_addSample 91 = .ok (.getfield 29, 3) := by decide +kernel
theorem dX10_addSample_94 : decode cX10_addSample 94 = .ok (.bipush 9, 2) := by decide +kernel
theorem dX10_addSample_96 : decode cX10_addSample 96 = .ok (.dup2, 1) := by decide +kernel
theorem dX10_addSample_97 : decode cX10_addSample 97 = .ok (.iaload, 1) := by decide +kernel
theorem dX10_addSample_98 : decode cX10_addSample 98 = .ok (.iconst 1, 1) := by decide +kernel
theorem dX10_addSample_99 : decode cX10_addSample 99 = .ok (.iadd, 1) := by decide +kernel
theorem dX10_addSample_100 : decode cX10_addSample 100 = .ok (.iastore, 1) := by decide +kernel
theorem dX10_addSample_101 : decode cX10_addSample 101 = .ok (.aload_n 0, 1) := by decide +kernel
theorem dX10_addSample_102 : decode cX10_addSample 102 = .ok (.getfield 29, 3) := by decide +kernel
theorem dX10_addSample_105 : decode cX10_addSample 105 = .ok (.bipush 9, 2) := by decide +kernel
theorem dX10_addSample_107 : decode cX10_addSample 107 = .ok (.iaload, 1) := by decide +kernel
theorem dX10_addSample_108 : decode cX10_addSample 108 = .ok (.ireturn, 1) := by decide +kernel
def fn_X10_addSample_28 (N : Nat) (M : Mem) (a0 : Nat) (x1 : Int32) (x2 : Int32) (x3 : Int32) : Option (Int32 × Mem) :=
  (mm_gR M a0 10 16).bind fun b1 =>
  (mm_aI M b1 0 9).bind fun v2 =>
  if v2 = 40 then
    some ((-3), M)
  else
    (mm_ck M a0 10).bind fun _ => mm_b2 (fn_X10_keep N M a0) fun _ M3 =>
    (mm_gR M3 a0 10 16).bind fun b4 =>
    (mm_aI M3 b4 0 9).bind fun v5 =>
    (mm_gR M3 a0 10 16).bind fun b6 =>
    (mm_sI M3 b6 0 (292 + (3 * v5)) x1).bind fun M7 =>
    (mm_gR M7 a0 10 16).bind fun b8 =>
    (mm_sI M7 b8 0 ((292 + (3 * v5)) + 1) x2).bind fun M9 =>
    (mm_gR M9 a0 10 16).bind fun b10 =>
    (mm_sI M9 b10 0 ((292 + (3 * v5)) + 2) x3).bind fun M11 =>
    (mm_gR M11 a0 10 16).bind fun b12 =>
    (mm_aI M11 b12 0 9).bind fun v13 =>
    (mm_sI M11 b12 0 9 (v13 + 1)).bind fun M14 =>
    (mm_gR M14 a0 10 16).bind fun b15 =>
    (mm_aI M14 b15 0 9).bind fun v16 =>
    some (v16, M14)
set_option maxRecDepth 100000 in
set_option maxHeartbeats 4000000 in
theorem bk_X10_addSample_28 {Γ : Gm} {ω : Wd} {k N : Nat} {r : Int32} {M' : Mem} (C : Cx Γ cX10_addSample 5 RX10 ω 2 0 0) (hr : Γ.meth.sig.returnType = (some .int)) (M : Mem) (a0 : Nat) (x1 : Int32) (x2 : Int32) (x3 : Int32) (h : fn_X10_addSample_28 N M a0 x1 x2 x3 = some (r, M')) : JJ Γ (QF Γ ω k 0 0 (some (.int r)) M') 5 ω k M 0 0 28 [(0, .ref a0), (1, .int x1), (2, .int x2), (3, .int x3)] [] := by
  unfold fn_X10_addSample_28 at h
  refine jv_aload_n C dX10_addSample_28 rfl 0 rfl ?_
  refine jv_getR C fa_X10_29 dX10_addSample_29 h (fun b1 h => ?_)
  refine jv_bipush (v := 9) C dX10_addSample_32 (by decide) ?_
  refine jv_iald C dX10_addSample_34 h (fun v2 h => ?_)
  refine jv_bipush (v := 40) C dX10_addSample_35 (by decide) ?_
  refine jv_icmp_ne (tgt := 43) C dX10_addSample_37 (by decide) h (fun h => ?_) (fun h => ?_)
  · refine jv_aload_n C dX10_addSample_43 rfl 0 rfl ?_
    refine jv_vV0 (As := []) C lk_X10_271 rfl dX10_addSample_44 rfl rfl (by decide) (by decide) (by decide) (Nat.le_of_ble_eq_true rfl) h (fun _ _ h => ct_X10_keep h) (fun _ M3 h => ?_)
    refine jv_sipush (v := 292) C dX10_addSample_47 (by decide) ?_
    refine jv_iconst (v := 3) C dX10_addSample_50 (by decide) ?_
    refine jv_aload_n C dX10_addSample_51 rfl 0 rfl ?_
    refine jv_getR C fa_X10_29 dX10_addSample_52 h (fun b4 h => ?_)
    refine jv_bipush (v := 9) C dX10_addSample_55 (by decide) ?_
    refine jv_iald C dX10_addSample_57 h (fun v5 h => ?_)
    refine jv_imul C dX10_addSample_58 ?_
    refine jv_iadd C dX10_addSample_59 ?_
    refine jv_istore (lv' := [(4, .int (292 + (3 * v5))), (0, .ref a0), (1, .int x1), (2, .int x2), (3, .int x3)]) C dX10_addSample_60 (by decide) rfl ?_
    refine jv_aload_n C dX10_addSample_62 rfl 1 rfl ?_
    refine jv_getR C fa_X10_29 dX10_addSample_63 h (fun b6 h => ?_)
    refine jv_iload C dX10_addSample_66 0 rfl ?_
    refine jv_iload_n C dX10_addSample_68 rfl 2 rfl ?_
    refine jv_iast C dX10_addSample_69 h (fun M7 h => ?_)
    refine jv_aload_n C dX10_addSample_70 rfl 1 rfl ?_
    refine jv_getR C fa_X10_29 dX10_addSample_71 h (fun b8 h => ?_)
    refine jv_iload C dX10_addSample_74 0 rfl ?_
    refine jv_iconst (v := 1) C dX10_addSample_76 (by decide) ?_
    refine jv_iadd C dX10_addSample_77 ?_
    refine jv_iload_n C dX10_addSample_78 rfl 3 rfl ?_
    refine jv_iast C dX10_addSample_79 h (fun M9 h => ?_)
    refine jv_aload_n C dX10_addSample_80 rfl 1 rfl ?_
    refine jv_getR C fa_X10_29 dX10_addSample_81 h (fun b10 h => ?_)
    refine jv_iload C dX10_addSample_84 0 rfl ?_
    refine jv_iconst (v := 2) C dX10_addSample_86 (by decide) ?_
    refine jv_iadd C dX10_addSample_87 ?_
    refine jv_iload_n C dX10_addSample_88 rfl 4 rfl ?_
    refine jv_iast C dX10_addSample_89 h (fun M11 h => ?_)
    refine jv_aload_n C dX10_addSample_90 rfl 1 rfl ?_
    refine jv_getR C fa_X10_29 dX10_addSample_91 h (fun b12 h => ?_)
    refine jv_bipush (v := 9) C dX10_addSample_94 (by decide) ?_
    refine jv_dup2 C dX10_addSample_96 rfl rfl ?_
    refine jv_iald C dX10_addSample_97 h (fun v13 h => ?_)
    refine jv_iconst (v := 1) C dX10_addSample_98 (by decide) ?_
    refine jv_iadd C dX10_addSample_99 ?_
    refine jv_iast C dX10_addSample_100 h (fun M14 h => ?_)
    refine jv_aload_n C dX10_addSample_101 rfl 1 rfl ?_
    refine jv_getR C fa_X10_29 dX10_addSample_102 h (fun b15 h => ?_)
    refine jv_bipush (v := 9) C dX10_addSample_105 (by decide) ?_
    refine jv_iald C dX10_addSample_107 h (fun v16 h => ?_)
    exact jv_iret C hr dX10_addSample_108 h
  · refine jv_bipush (v := (-3)) C dX10_addSample_40 (by decide) ?_
    exact jv_iret C hr dX10_addSample_42 h
def fn_X10_addSample (N : Nat) (M : Mem) (a0 : Nat) (x1 : Int32) (x2 : Int32) (x3 : Int32) : Option (Int32 × Mem) :=
  (mm_pV M a0 10 0 (.int 0)).bind fun M1 =>
  mm_b2 (fn_X10_isCoin N M1 x1 x2) fun v3 M2 =>
  if v3 = 0 then
    some ((-1), M2)
  else
    if x3 = (-1) then
      fn_X10_addSample_28 N M2 a0 x1 x2 x3
    else
      (mm_ck M2 a0 10).bind fun _ => mm_b2 (fn_X10_isType N M2 a0 x3) fun v5 M4 =>
      if v5 = 0 then
        some ((-1), M4)
      else
        fn_X10_addSample_28 N M4 a0 x1 x2 x3
set_option maxRecDepth 100000 in
set_option maxHeartbeats 4000000 in
theorem ct_X10_addSample {l : Launch} {ω : Wd} {k N : Nat} {M : Mem} {a0 : Nat} {x1 : Int32} {x2 : Int32} {x3 : Int32} {r : Int32} {M' : Mem} (h : fn_X10_addSample N M a0 x1 x2 x3 = some (r, M')) : CM l ω k yX10_addSample cX10_addSample 5 (some .int) 2 0 0 [.ref a0, .int x1, .int x2, .int x3] M (some (.int r)) M' := by
  refine CM.of (by decide) (Nat.le_of_ble_eq_true rfl) fun Γ hl C hr hi => ?_
  subst hl
  unfold fn_X10_addSample at h
  refine jv_aload_n C dX10_addSample_0 rfl 0 rfl ?_
  refine jv_iconst (v := 0) C dX10_addSample_1 (by decide) ?_
  refine jv_putI C fp_X10_58 dX10_addSample_2 h (fun M1 h => ?_)
  refine jv_iload_n C dX10_addSample_5 rfl 1 rfl ?_
  refine jv_iload_n C dX10_addSample_6 rfl 2 rfl ?_
  refine jv_sI0 (As := [.int x1, .int x2]) C lk_X10_208 dX10_addSample_7 rfl rfl (by decide) (by decide) (by decide) (Nat.le_of_ble_eq_true rfl) h (fun _ _ h => ct_X10_isCoin h) (fun v3 M2 h => ?_)
  refine jv_if_eq (tgt := 26) C dX10_addSample_10 (by decide) h (fun h => ?_) (fun h => ?_)
  · refine jv_iconst (v := (-1)) C dX10_addSample_26 (by decide) ?_
    exact jv_iret C hr dX10_addSample_27 h
  · refine jv_iload_n C dX10_addSample_13 rfl 3 rfl ?_
    refine jv_iconst (v := (-1)) C dX10_addSample_14 (by decide) ?_
    refine jv_icmp_eq (tgt := 28) C dX10_addSample_15 (by decide) h (fun h => ?_) (fun h => ?_)
    · exact bk_X10_addSample_28 C hr _ _ _ _ _ h
    · refine jv_aload_n C dX10_addSample_18 rfl 0 rfl ?_
      refine jv_iload_n C dX10_addSample_19 rfl 3 rfl ?_
      refine jv_vI0 (As := [.int x3]) C lk_X10_170 rfl dX10_addSample_20 rfl rfl (by decide) (by decide) (by decide) (Nat.le_of_ble_eq_true rfl) h (fun _ _ h => ct_X10_isType h) (fun v5 M4 h => ?_)
      refine jv_if_ne (tgt := 28) C dX10_addSample_23 (by decide) h (fun h => ?_) (fun h => ?_)
      · exact bk_X10_addSample_28 C hr _ _ _ _ _ h
      · refine jv_iconst (v := (-1)) C dX10_addSample_26 (by decide) ?_
        exact jv_iret C hr dX10_addSample_27 h
theorem dX10_adopt_0 : decode cX10_adopt 0 = .ok (.iconst 0, 1) := by decide +kernel
theorem dX10_adopt_1 : decode cX10_adopt 1 = .ok (.istore_n 1, 1) := by decide +kernel
theorem dX10_adopt_2 : decode cX10_adopt 2 = .ok (.iload_n 1, 1) := by decide +kernel
theorem dX10_adopt_3 : decode cX10_adopt 3 = .ok (.aload_n 0, 1) := by decide +kernel
theorem dX10_adopt_4 : decode cX10_adopt 4 = .ok (.arraylength, 1) := by decide +kernel
theorem dX10_adopt_5 : decode cX10_adopt 5 = .ok (.iconst 2, 1) := by decide +kernel
theorem dX10_adopt_6 : decode cX10_adopt 6 = .ok (.idiv, 1) := by decide +kernel
theorem dX10_adopt_7 : decode cX10_adopt 7 = .ok (.if_icmp .ge 20, 3) := by decide +kernel
theorem dX10_adopt_10 : decode cX10_adopt 10 = .ok (.aload_n 0, 1) := by decide +kernel
theorem dX10_adopt_11 : decode cX10_adopt 11 = .ok (.iload_n 1, 1) := by decide +kernel
theorem dX10_adopt_12 : decode cX10_adopt 12 = .ok (.aload_n 0, 1) := by decide +kernel
theorem dX10_adopt_13 : decode cX10_adopt 13 = .ok (.aload_n 0, 1) := by decide +kernel
theorem dX10_adopt_14 : decode cX10_adopt 14 = .ok (.arraylength, 1) := by decide +kernel
theorem dX10_adopt_15 : decode cX10_adopt 15 = .ok (.iconst 2, 1) := by decide +kernel
theorem dX10_adopt_16 : decode cX10_adopt 16 = .ok (.idiv, 1) := by decide +kernel
theorem dX10_adopt_17 : decode cX10_adopt 17 = .ok (.iload_n 1, 1) := by decide +kernel
theorem dX10_adopt_18 : decode cX10_adopt 18 = .ok (.iadd, 1) := by decide +kernel
theorem dX10_adopt_19 : decode cX10_adopt 19 = .ok (.iaload, 1) := by decide +kernel
theorem dX10_adopt_20 : decode cX10_adopt 20 = .ok (.iastore, 1) := by decide +kernel
theorem dX10_adopt_21 : decode cX10_adopt 21 = .ok (.iinc 1 1, 3) := by decide +kernel
theorem dX10_adopt_24 : decode cX10_adopt 24 = .ok (.goto (-22), 3) := by decide +kernel
theorem dX10_adopt_27 : decode cX10_adopt 27 = .ok (.return_, 1) := by decide +kernel
def fn_X10_adopt_2 (N : Nat) : Nat → Mem → Nat → Int32 → Option (Unit × Mem)
  | 0, _, _, _ => none
  | n + 1, M, a0, x1 =>
    (mm_aN M a0).bind fun v1 =>
    (mm_dI v1 2).bind fun v2 =>
    if v2 ≤ x1 then
      some ((), M)
    else
      (mm_aN M a0).bind fun v3 =>
      (mm_dI v3 2).bind fun v4 =>
      (mm_aI M a0 0 (v4 + x1)).bind fun v5 =>
      (mm_sI M a0 0 x1 v5).bind fun M6 =>
      fn_X10_adopt_2 N n M6 a0 ((x1 + 1))
set_option maxRecDepth 100000 in
set_option maxHeartbeats 4000000 in
theorem bk_X10_adopt_2 {Γ : Gm} {ω : Wd} {k N : Nat} {r : Unit} {M' : Mem} (C : Cx Γ cX10_adopt 2 RX10 ω 0 0 0) (hr : Γ.meth.sig.returnType = none) : ∀ (n : Nat) (M : Mem) (a0 : Nat) (x1 : Int32), fn_X10_adopt_2 N n M a0 x1 = some (r, M') → JJ Γ (QF Γ ω k 0 0 none M') 2 ω k M 0 0 2 [(0, .ref a0), (1, .int x1)] [] := by
  intro n
  induction n with
  | zero => intro M a0 x1 h; exact jv_no h
  | succ n ih =>
    intro M a0 x1 h
    rw [fn_X10_adopt_2.eq_2] at h
    refine jv_iload_n C dX10_adopt_2 rfl 1 rfl ?_
    refine jv_aload_n C dX10_adopt_3 rfl 0 rfl ?_
    refine jv_alen C dX10_adopt_4 h (fun v1 h => ?_)
    refine jv_iconst (v := 2) C dX10_adopt_5 (by decide) ?_
    refine jv_idiv C dX10_adopt_6 h (fun v2 h => ?_)
    refine jv_icmp_ge (tgt := 27) C dX10_adopt_7 (by decide) h (fun h => ?_) (fun h => ?_)
    · exact jv_vret C hr dX10_adopt_27 h
    · refine jv_aload_n C dX10_adopt_10 rfl 0 rfl ?_
      refine jv_iload_n C dX10_adopt_11 rfl 1 rfl ?_
      refine jv_aload_n C dX10_adopt_12 rfl 0 rfl ?_
      refine jv_aload_n C dX10_adopt_13 rfl 0 rfl ?_
      refine jv_alen C dX10_adopt_14 h (fun v3 h => ?_)
      refine jv_iconst (v := 2) C dX10_adopt_15 (by decide) ?_
      refine jv_idiv C dX10_adopt_16 h (fun v4 h => ?_)
      refine jv_iload_n C dX10_adopt_17 rfl 1 rfl ?_
      refine jv_iadd C dX10_adopt_18 ?_
      refine jv_iald C dX10_adopt_19 h (fun v5 h => ?_)
      refine jv_iast C dX10_adopt_20 h (fun M6 h => ?_)
      refine jv_iinc (v := 1) (lv' := [(1, .int (x1 + 1)), (0, .ref a0)]) C dX10_adopt_21 1 rfl (by decide) (by decide) rfl ?_
      refine jv_goto (tgt := 2) C dX10_adopt_24 (by decide) ?_
      refine jv_sub [1, 0] rfl ?_
      exact ih _ _ _ h
def fn_X10_adopt (N : Nat) (M : Mem) (a0 : Nat) : Option (Unit × Mem) :=
  fn_X10_adopt_2 N N M a0 0
set_option maxRecDepth 100000 in
set_option maxHeartbeats 4000000 in
theorem ct_X10_adopt {l : Launch} {ω : Wd} {k N : Nat} {M : Mem} {a0 : Nat} {r : Unit} {M' : Mem} (h : fn_X10_adopt N M a0 = some (r, M')) : CM l ω k yX10_adopt cX10_adopt 2 none 0 0 0 [.ref a0] M none M' := by
  refine CM.of (by decide) (Nat.le_of_ble_eq_true rfl) fun Γ hl C hr hi => ?_
  subst hl
  unfold fn_X10_adopt at h
  refine jv_iconst (v := 0) C dX10_adopt_0 (by decide) ?_
  refine jv_istore_n (lv' := [(1, .int 0), (0, .ref a0)]) C dX10_adopt_1 rfl (by decide) rfl ?_
  refine jv_sub [1, 0] rfl ?_
  exact bk_X10_adopt_2 C hr _ _ _ _ h
theorem dX10_told_0 : decode cX10_told 0 = .ok (.aload_n 0, 1) := by decide +kernel
theorem dX10_told_1 : decode cX10_told 1 = .ok (.iconst 0, 1) := by decide +kernel
theorem dX10_told_2 : decode cX10_told 2 = .ok (.putfield 58, 3) := by decide +kernel
theorem dX10_told_5 : decode cX10_told 5 = .ok (.iload_n 1, 1) := by decide +kernel
theorem dX10_told_6 : decode cX10_told 6 = .ok (.ireturn, 1) := by decide +kernel
def fn_X10_told (N : Nat) (M : Mem) (a0 : Nat) (x1 : Int32) : Option (Int32 × Mem) :=
  (mm_pV M a0 10 0 (.int 0)).bind fun M1 =>
  some (x1, M1)
set_option maxRecDepth 100000 in
set_option maxHeartbeats 4000000 in
theorem ct_X10_told {l : Launch} {ω : Wd} {k N : Nat} {M : Mem} {a0 : Nat} {x1 : Int32} {r : Int32} {M' : Mem} (h : fn_X10_told N M a0 x1 = some (r, M')) : CM l ω k yX10_told cX10_told 2 (some .int) 0 0 0 [.ref a0, .int x1] M (some (.int r)) M' := by
  refine CM.of (by decide) (Nat.le_of_ble_eq_true rfl) fun Γ hl C hr hi => ?_
  subst hl
  unfold fn_X10_told at h
  refine jv_aload_n C dX10_told_0 rfl 0 rfl ?_
  refine jv_iconst (v := 0) C dX10_told_1 (by decide) ?_
  refine jv_putI C fp_X10_58 dX10_told_2 h (fun M1 h => ?_)
  refine jv_iload_n C dX10_told_5 rfl 1 rfl ?_
  exact jv_iret C hr dX10_told_6 h
theorem dX10_alloyOffset_0 : decode cX10_alloyOffset 0 = .ok (.aload_n 0, 1) := by decide +kernel
theorem dX10_alloyOffset_1 : decode cX10_alloyOffset 1 = .ok (.aload_n 0, 1) := by decide +kernel
theorem dX10_alloyOffset_2 : decode cX10_alloyOffset 2 = .ok (.getfield 29, 3) := by decide +kernel
theorem dX10_alloyOffset_5 : decode cX10_alloyOffset 5 = .ok (.iconst 1, 1) := by decide +kernel
theorem dX10_alloyOffset_6 : decode cX10_alloyOffset 6 = .ok (.iaload, 1) := by decide +kernel
theorem dX10_alloyOffset_7 : decode cX10_alloyOffset 7 = .ok (.invokevirtual 167, 3) := by decide +kernel
theorem dX10_alloyOffset_10 : decode cX10_alloyOffset 10 = .ok (.ireturn, 1) := by decide +kernel
def fn_X10_alloyOffset (N : Nat) (M : Mem) (a0 : Nat) : Option (Int32 × Mem) :=
  (mm_gR M a0 10 16).bind fun b1 =>
  (mm_aI M b1 0 1).bind fun v2 =>
  (mm_ck M a0 10).bind fun _ => mm_b2 (fn_X10_told N M a0 v2) fun v4 M3 =>
  some (v4, M3)
set_option maxRecDepth 100000 in
set_option maxHeartbeats 4000000 in
theorem ct_X10_alloyOffset {l : Launch} {ω : Wd} {k N : Nat} {M : Mem} {a0 : Nat} {r : Int32} {M' : Mem} (h : fn_X10_alloyOffset N M a0 = some (r, M')) : CM l ω k yX10_alloyOffset cX10_alloyOffset 1 (some .int) 1 0 0 [.ref a0] M (some (.int r)) M' := by
  refine CM.of (by decide) (Nat.le_of_ble_eq_true rfl) fun Γ hl C hr hi => ?_
  subst hl
  unfold fn_X10_alloyOffset at h
  refine jv_aload_n C dX10_alloyOffset_0 rfl 0 rfl ?_
  refine jv_aload_n C dX10_alloyOffset_1 rfl 0 rfl ?_
  refine jv_getR C fa_X10_29 dX10_alloyOffset_2 h (fun b1 h => ?_)
  refine jv_iconst (v := 1) C dX10_alloyOffset_5 (by decide) ?_
  refine jv_iald C dX10_alloyOffset_6 h (fun v2 h => ?_)
  refine jv_vI0 (As := [.int v2]) C lk_X10_167 rfl dX10_alloyOffset_7 rfl rfl (by decide) (by decide) (by decide) (Nat.le_of_ble_eq_true rfl) h (fun _ _ h => ct_X10_told h) (fun v4 M3 h => ?_)
  exact jv_iret C hr dX10_alloyOffset_10 h
theorem dX10_appendInt_0 : decode cX10_appendInt 0 = .ok (.bipush 24, 2) := by decide +kernel
theorem dX10_appendInt_2 : decode cX10_appendInt 2 = .ok (.istore_n 2, 1) := by decide +kernel
theorem dX10_appendInt_3 : decode cX10_appendInt 3 = .ok (.iload_n 2, 1) := by decide +kernel
theorem dX10_appendInt_4 : decode cX10_appendInt 4 = .ok (.ifCond .lt 32, 3) := by decide +kernel
theorem dX10_appendInt_7 : decode cX10_appendInt 7 = .ok (.aload_n 0, 1) := by decide +kernel
theorem dX10_appendInt_8 : decode cX10_appendInt 8 = .ok (.getfield 7, 3) := by decide +kernel
theorem dX10_appendInt_11 : decode cX10_appendInt 11 = .ok (.aload_n 0, 1) := by decide +kernel
theorem dX10_appendInt_12 : decode cX10_appendInt 12 = .ok (.getfield 62, 3) := by decide +kernel
theorem dX10_appendInt_15 : decode cX10_appendInt 15 = .ok (.iload_n 1, 1) := by decide +kernel
theorem dX10_appendInt_16 : decode cX10_appendInt 16 = .ok (.iload_n 2, 1) := by decide +kernel
theorem dX10_appendInt_17 : decode cX10_appendInt 17 = .ok (.ishr, 1) := by decide +kernel
theorem dX10_appendInt_18 : decode cX10_appendInt 18 = .ok (.i2b, 1) := by decide +kernel
theorem dX10_appendInt_19 : decode cX10_appendInt 19 = .ok (.bastore, 1) := by decide +kernel
theorem dX10_appendInt_20 : decode cX10_appendInt 20 = .ok (.aload_n 0, 1) := by decide +kernel
theorem dX10_appendInt_21 : decode cX10_appendInt 21 = .ok (.dup, 1) := by decide +kernel
theorem dX10_appendInt_22 : decode cX10_appendInt 22 = .ok (.getfield 62, 3) := by decide +kernel
theorem dX10_appendInt_25 : decode cX10_appendInt 25 = .ok (.iconst 1, 1) := by decide +kernel
theorem dX10_appendInt_26 : decode cX10_appendInt 26 = .ok (.iadd, 1) := by decide +kernel
theorem dX10_appendInt_27 : decode cX10_appendInt 27 = .ok (.putfield 62, 3) := by decide +kernel
theorem dX10_appendInt_30 : decode cX10_appendInt 30 = .ok (.iinc 2 (-8), 3) := by decide +kernel
theorem dX10_appendInt_33 : decode cX10_appendInt 33 = .ok (.goto (-30), 3) := by decide +kernel
theorem dX10_appendInt_36 : decode cX10_appendInt 36 = .ok (.return_, 1) := by decide +kernel
def fn_X10_appendInt_3 (N : Nat) : Nat → Mem → Nat → Int32 → Int32 → Option (Unit × Mem)
  | 0, _, _, _, _ => none
  | n + 1, M, a0, x1, x2 =>
    if x2 < 0 then
      some ((), M)
    else
      (mm_gR M a0 10 1).bind fun b1 =>
      (mm_gI M a0 10 2).bind fun v2 =>
      (mm_sI M b1 2 v2 (vp_nar .byte (Int8.toInt32 (Int32.toInt8 (x1 >>> (x2 &&& 31)))))).bind fun M3 =>
      (mm_gI M3 a0 10 2).bind fun v4 =>
      (mm_pV M3 a0 10 2 (.int (v4 + 1))).bind fun M5 =>
      fn_X10_appendInt_3 N n M5 a0 x1 ((x2 + (-8)))
set_option maxRecDepth 100000 in
set_option maxHeartbeats 4000000 in
theorem bk_X10_appendInt_3 {Γ : Gm} {ω : Wd} {k N : Nat} {r : Unit} {M' : Mem} (C : Cx Γ cX10_appendInt 3 RX10 ω 0 0 0) (hr : Γ.meth.sig.returnType = none) : ∀ (n : Nat) (M : Mem) (a0 : Nat) (x1 : Int32) (x2 : Int32), fn_X10_appendInt_3 N n M a0 x1 x2 = some (r, M') → JJ Γ (QF Γ ω k 0 0 none M') 3 ω k M 0 0 3 [(0, .ref a0), (1, .int x1), (2, .int x2)] [] := by
  intro n
  induction n with
  | zero => intro M a0 x1 x2 h; exact jv_no h
  | succ n ih =>
    intro M a0 x1 x2 h
    rw [fn_X10_appendInt_3.eq_2] at h
    refine jv_iload_n C dX10_appendInt_3 rfl 2 rfl ?_
    refine jv_if_lt (tgt := 36) C dX10_appendInt_4 (by decide) h (fun h => ?_) (fun h => ?_)
    · exact jv_vret C hr dX10_appendInt_36 h
    · refine jv_aload_n C dX10_appendInt_7 rfl 0 rfl ?_
      refine jv_getR C fa_X10_7 dX10_appendInt_8 h (fun b1 h => ?_)
      refine jv_aload_n C dX10_appendInt_11 rfl 0 rfl ?_
      refine jv_getI C fa_X10_62 dX10_appendInt_12 h (fun v2 h => ?_)
      refine jv_iload_n C dX10_appendInt_15 rfl 1 rfl ?_
      refine jv_iload_n C dX10_appendInt_16 rfl 2 rfl ?_
      refine jv_ishr C dX10_appendInt_17 ?_
      refine jv_i2b C dX10_appendInt_18 ?_
      refine jv_bast C dX10_appendInt_19 h (fun M3 h => ?_)
      refine jv_aload_n C dX10_appendInt_20 rfl 0 rfl ?_
      refine jv_dup C dX10_appendInt_21 rfl ?_
      refine jv_getI C fa_X10_62 dX10_appendInt_22 h (fun v4 h => ?_)
      refine jv_iconst (v := 1) C dX10_appendInt_25 (by decide) ?_
      refine jv_iadd C dX10_appendInt_26 ?_
      refine jv_putI C fp_X10_62 dX10_appendInt_27 h (fun M5 h => ?_)
      refine jv_iinc (v := (-8)) (lv' := [(2, .int (x2 + (-8))), (0, .ref a0), (1, .int x1)]) C dX10_appendInt_30 2 rfl (by decide) (by decide) rfl ?_
      refine jv_goto (tgt := 3) C dX10_appendInt_33 (by decide) ?_
      refine jv_sub [1, 2, 0] rfl ?_
      exact ih _ _ _ _ h
def fn_X10_appendInt (N : Nat) (M : Mem) (a0 : Nat) (x1 : Int32) : Option (Unit × Mem) :=
  fn_X10_appendInt_3 N N M a0 x1 24
set_option maxRecDepth 100000 in
set_option maxHeartbeats 4000000 in
theorem ct_X10_appendInt {l : Launch} {ω : Wd} {k N : Nat} {M : Mem} {a0 : Nat} {x1 : Int32} {r : Unit} {M' : Mem} (h : fn_X10_appendInt N M a0 x1 = some (r, M')) : CM l ω k yX10_appendInt cX10_appendInt 3 none 0 0 0 [.ref a0, .int x1] M none M' := by
  refine CM.of (by decide) (Nat.le_of_ble_eq_true rfl) fun Γ hl C hr hi => ?_
  subst hl
  unfold fn_X10_appendInt at h
  refine jv_bipush (v := 24) C dX10_appendInt_0 (by decide) ?_
  refine jv_istore_n (lv' := [(2, .int 24), (0, .ref a0), (1, .int x1)]) C dX10_appendInt_2 rfl (by decide) rfl ?_
  refine jv_sub [1, 2, 0] rfl ?_
  exact bk_X10_appendInt_3 C hr _ _ _ _ _ h
theorem dX10_append_0 : decode cX10_append 0 = .ok (.aload_n 0, 1) := by decide +kernel
theorem dX10_append_1 : decode cX10_append 1 = .ok (.iconst 0, 1) := by decide +kernel
theorem dX10_append_2 : decode cX10_append 2 = .ok (.putfield 58, 3) := by decide +kernel
theorem dX10_append_5 : decode cX10_append 5 = .ok (.aload_n 0, 1) := by decide +kernel
theorem dX10_append_6 : decode cX10_append 6 = .ok (.getfield 62, 3) := by decide +kernel
theorem dX10_append_9 : decode cX10_append 9 = .ok (.bipush 20, 2) := by decide +kernel
theorem dX10_append_11 : decode cX10_append 11 = .ok (.iadd, 1) := by decide +kernel
theorem dX10_append_12 : decode cX10_append 12 = .ok (.sipush 800, 3) := by decide +kernel
theorem dX10_append_15 : decode cX10_append 15 = .ok (.if_icmp .le 6, 3) := by decide +kernel
theorem dX10_append_18 : decode cX10_append 18 = .ok (.bipush (-3), 2) := by decide +kernel
theorem dX10_append_20 : decode cX10_append 20 = .ok (.ireturn, 1) := by decide +kernel
theorem dX10_append_21 : decode cX10_append 21 = .ok (.aload_n 0, 1) := by decide +kernel
theorem dX10_append_22 : decode cX10_append 22 = .ok (.iload_n 1, 1) := by decide +kernel
theorem dX10_append_23 : decode cX10_append 23 = .ok (.invokevirtual 65, 3) := by decide +kernel
theorem dX10_append_26 : decode cX10_append 26 = .ok (.aload_n 0, 1) := by decide +kernel
theorem dX10_append_27 : decode cX10_append 27 = .ok (.iload_n 2, 1) := by decide +kernel
theorem dX10_append_28 : decode cX10_append 28 = .ok (.invokevirtual 65, 3) := by decide +kernel
theorem dX10_append_31 : decode cX10_append 31 = .ok (.aload_n 0, 1) := by decide +kernel
theorem dX10_append_32 : decode cX10_append 32 = .ok (.iload_n 3, 1) := by decide +kernel
theorem dX10_append_33 : decode cX10_append 33 = .ok (.invokevirtual 65, 3) := by decide +kernel
theorem dX10_append_36 : decode cX10_append 36 = .ok (.aload_n 0, 1) := by decide +kernel
theorem dX10_append_37 : decode cX10_append 37 = .ok (.iload 4, 2) := by decide +kernel
theorem dX10_append_39 : decode cX10_append 39 = .ok (.invokevirtual 65, 3) := by decide +kernel
theorem dX10_append_42 : decode cX10_append 42 = .ok (.aload_n 0, 1) := by decide +kernel
theorem dX10_append_43 : decode cX10_append 43 = .ok (.iload 5, 2) := by decide +kernel
theorem dX10_append_45 : decode cX10_append 45 = .ok (.invokevirtual 65, 3) := by decide +kernel
theorem dX10_append_48 : decode cX10_append 48 = .ok (.aload_n 0, 1) := by decide +kernel
theorem dX10_append_49 : decode cX10_append 49 = .ok (.getfield 62, 3) := by decide +kernel
theorem dX10_append_52 : decode cX10_append 52 = .ok (.ireturn, 1) := by decide +kernel
def fn_X10_append (N : Nat) (M : Mem) (a0 : Nat) (x1 : Int32) (x2 : Int32) (x3 : Int32) (x4 : Int32) (x5 : Int32) : Option (Int32 × Mem) :=
  (mm_pV M a0 10 0 (.int 0)).bind fun M1 =>
  (mm_gI M1 a0 10 2).bind fun v2 =>
  if (v2 + 20) ≤ 800 then
    (mm_ck M1 a0 10).bind fun _ => mm_b2 (fn_X10_appendInt N M1 a0 x1) fun _ M3 =>
    (mm_ck M3 a0 10).bind fun _ => mm_b2 (fn_X10_appendInt N M3 a0 x2) fun _ M4 =>
    (mm_ck M4 a0 10).bind fun _ => mm_b2 (fn_X10_appendInt N M4 a0 x3) fun _ M5 =>
    (mm_ck M5 a0 10).bind fun _ => mm_b2 (fn_X10_appendInt N M5 a0 x4) fun _ M6 =>
    (mm_ck M6 a0 10).bind fun _ => mm_b2 (fn_X10_appendInt N M6 a0 x5) fun _ M7 =>
    (mm_gI M7 a0 10 2).bind fun v8 =>
    some (v8, M7)
  else
    some ((-3), M1)
set_option maxRecDepth 100000 in
set_option maxHeartbeats 4000000 in
theorem ct_X10_append {l : Launch} {ω : Wd} {k N : Nat} {M : Mem} {a0 : Nat} {x1 : Int32} {x2 : Int32} {x3 : Int32} {x4 : Int32} {x5 : Int32} {r : Int32} {M' : Mem} (h : fn_X10_append N M a0 x1 x2 x3 x4 x5 = some (r, M')) : CM l ω k yX10_append cX10_append 6 (some .int) 1 0 0 [.ref a0, .int x1, .int x2, .int x3, .int x4, .int x5] M (some (.int r)) M' := by
  refine CM.of (by decide) (Nat.le_of_ble_eq_true rfl) fun Γ hl C hr hi => ?_
  subst hl
  unfold fn_X10_append at h
  refine jv_aload_n C dX10_append_0 rfl 0 rfl ?_
  refine jv_iconst (v := 0) C dX10_append_1 (by decide) ?_
  refine jv_putI C fp_X10_58 dX10_append_2 h (fun M1 h => ?_)
  refine jv_aload_n C dX10_append_5 rfl 0 rfl ?_
  refine jv_getI C fa_X10_62 dX10_append_6 h (fun v2 h => ?_)
  refine jv_bipush (v := 20) C dX10_append_9 (by decide) ?_
  refine jv_iadd C dX10_append_11 ?_
  refine jv_sipush (v := 800) C dX10_append_12 (by decide) ?_
  refine jv_icmp_le (tgt := 21) C dX10_append_15 (by decide) h (fun h => ?_) (fun h => ?_)
  · refine jv_aload_n C dX10_append_21 rfl 0 rfl ?_
    refine jv_iload_n C dX10_append_22 rfl 1 rfl ?_
    refine jv_vV0 (As := [.int x1]) C lk_X10_65 rfl dX10_append_23 rfl rfl (by decide) (by decide) (by decide) (Nat.le_of_ble_eq_true rfl) h (fun _ _ h => ct_X10_appendInt h) (fun _ M3 h => ?_)
    refine jv_aload_n C dX10_append_26 rfl 0 rfl ?_
    refine jv_iload_n C dX10_append_27 rfl 2 rfl ?_
    refine jv_vV0 (As := [.int x2]) C lk_X10_65 rfl dX10_append_28 rfl rfl (by decide) (by decide) (by decide) (Nat.le_of_ble_eq_true rfl) h (fun _ _ h => ct_X10_appendInt h) (fun _ M4 h => ?_)
    refine jv_aload_n C dX10_append_31 rfl 0 rfl ?_
    refine jv_iload_n C dX10_append_32 rfl 3 rfl ?_
    refine jv_vV0 (As := [.int x3]) C lk_X10_65 rfl dX10_append_33 rfl rfl (by decide) (by decide) (by decide) (Nat.le_of_ble_eq_true rfl) h (fun _ _ h => ct_X10_appendInt h) (fun _ M5 h => ?_)
    refine jv_aload_n C dX10_append_36 rfl 0 rfl ?_
    refine jv_iload C dX10_append_37 4 rfl ?_
    refine jv_vV0 (As := [.int x4]) C lk_X10_65 rfl dX10_append_39 rfl rfl (by decide) (by decide) (by decide) (Nat.le_of_ble_eq_true rfl) h (fun _ _ h => ct_X10_appendInt h) (fun _ M6 h => ?_)
    refine jv_aload_n C dX10_append_42 rfl 0 rfl ?_
    refine jv_iload C dX10_append_43 5 rfl ?_
    refine jv_vV0 (As := [.int x5]) C lk_X10_65 rfl dX10_append_45 rfl rfl (by decide) (by decide) (by decide) (Nat.le_of_ble_eq_true rfl) h (fun _ _ h => ct_X10_appendInt h) (fun _ M7 h => ?_)
    refine jv_aload_n C dX10_append_48 rfl 0 rfl ?_
    refine jv_getI C fa_X10_62 dX10_append_49 h (fun v8 h => ?_)
    exact jv_iret C hr dX10_append_52 h
  · refine jv_bipush (v := (-3)) C dX10_append_18 (by decide) ?_
    exact jv_iret C hr dX10_append_20 h
theorem dX10_isBag_0 : decode cX10_isBag 0 = .ok (.iload_n 1, 1) := by decide +kernel
theorem dX10_isBag_1 : decode cX10_isBag 1 = .ok (.i2l, 1) := by decide +kernel
theorem dX10_isBag_2 : decode cX10_isBag 2 = .ok (.lconst 0, 1) := by decide +kernel
theorem dX10_isBag_3 : decode cX10_isBag 3 = .ok (.aload_n 0, 1) := by decide +kernel
theorem dX10_isBag_4 : decode cX10_isBag 4 = .ok (.getfield 29, 3) := by decide +kernel
theorem dX10_isBag_7 : decode cX10_isBag 7 = .ok (.bipush 8, 2) := by decide +kernel
theorem dX10_isBag_9 : decode cX10_isBag 9 = .ok (.iaload, 1) := by decide +kernel
theorem dX10_isBag_10 : decode cX10_isBag 10 = .ok (.iconst 1, 1) := by decide +kernel
theorem dX10_isBag_11 : decode cX10_isBag 11 = .ok (.isub, 1) := by decide +kernel
theorem dX10_isBag_12 : decode cX10_isBag 12 = .ok (.i2l, 1) := by decide +kernel
theorem dX10_isBag_13 : decode cX10_isBag 13 = .ok (.invokestatic 89, 3) := by decide +kernel
theorem dX10_isBag_16 : decode cX10_isBag 16 = .ok (.ireturn, 1) := by decide +kernel
def fn_X10_isBag (N : Nat) (M : Mem) (a0 : Nat) (x1 : Int32) : Option (Int32 × Mem) :=
  (mm_gR M a0 10 16).bind fun b1 =>
  (mm_aI M b1 0 8).bind fun v2 =>
  mm_b2 (fn_X10_within N M ((Int32.toInt64 x1)) 0 ((Int32.toInt64 (v2 - 1)))) fun v4 M3 =>
  if v4 = 0 ∨ v4 = 1 then some (v4, M3) else none
set_option maxRecDepth 100000 in
set_option maxHeartbeats 4000000 in
theorem ct_X10_isBag {l : Launch} {ω : Wd} {k N : Nat} {M : Mem} {a0 : Nat} {x1 : Int32} {r : Int32} {M' : Mem} (h : fn_X10_isBag N M a0 x1 = some (r, M')) : CM l ω k yX10_isBag cX10_isBag 2 (some .boolean) 1 0 0 [.ref a0, .int x1] M (some (.int r)) M' := by
  refine CM.of (by decide) (Nat.le_of_ble_eq_true rfl) fun Γ hl C hr hi => ?_
  subst hl
  unfold fn_X10_isBag at h
  refine jv_iload_n C dX10_isBag_0 rfl 1 rfl ?_
  refine jv_i2l C dX10_isBag_1 ?_
  refine jv_lconst (v := 0) C dX10_isBag_2 (by decide) ?_
  refine jv_aload_n C dX10_isBag_3 rfl 0 rfl ?_
  refine jv_getR C fa_X10_29 dX10_isBag_4 h (fun b1 h => ?_)
  refine jv_bipush (v := 8) C dX10_isBag_7 (by decide) ?_
  refine jv_iald C dX10_isBag_9 h (fun v2 h => ?_)
  refine jv_iconst (v := 1) C dX10_isBag_10 (by decide) ?_
  refine jv_isub C dX10_isBag_11 ?_
  refine jv_i2l C dX10_isBag_12 ?_
  refine jv_sI0 (As := [.long (Int32.toInt64 x1), .long 0, .long (Int32.toInt64 (v2 - 1))]) C lk_X10_89 dX10_isBag_13 rfl rfl (by decide) (by decide) (by decide) (Nat.le_of_ble_eq_true rfl) h (fun _ _ h => ct_X10_within h) (fun v4 M3 h => ?_)
  exact jv_zret C hr dX10_isBag_16 h
theorem dX10_fail_0 : decode cX10_fail 0 = .ok (.aload_n 0, 1) := by decide +kernel
theorem dX10_fail_1 : decode cX10_fail 1 = .ok (.iload_n 1, 1) := by decide +kernel
theorem dX10_fail_2 : decode cX10_fail 2 = .ok (.putfield 58, 3) := by decide +kernel
theorem dX10_fail_5 : decode cX10_fail 5 = .ok (.iconst 0, 1) := by decide +kernel
theorem dX10_fail_6 : decode cX10_fail 6 = .ok (.ireturn, 1) := by decide +kernel
def fn_X10_fail (N : Nat) (M : Mem) (a0 : Nat) (x1 : Int32) : Option (Int32 × Mem) :=
  (mm_pV M a0 10 0 (.int x1)).bind fun M1 =>
  some (0, M1)
set_option maxRecDepth 100000 in
set_option maxHeartbeats 4000000 in
theorem ct_X10_fail {l : Launch} {ω : Wd} {k N : Nat} {M : Mem} {a0 : Nat} {x1 : Int32} {r : Int32} {M' : Mem} (h : fn_X10_fail N M a0 x1 = some (r, M')) : CM l ω k yX10_fail cX10_fail 2 (some .int) 0 0 0 [.ref a0, .int x1] M (some (.int r)) M' := by
  refine CM.of (by decide) (Nat.le_of_ble_eq_true rfl) fun Γ hl C hr hi => ?_
  subst hl
  unfold fn_X10_fail at h
  refine jv_aload_n C dX10_fail_0 rfl 0 rfl ?_
  refine jv_iload_n C dX10_fail_1 rfl 1 rfl ?_
  refine jv_putI C fp_X10_58 dX10_fail_2 h (fun M1 h => ?_)
  refine jv_iconst (v := 0) C dX10_fail_5 (by decide) ?_
  exact jv_iret C hr dX10_fail_6 h
theorem dX10_audit_0 : decode cX10_audit 0 = .ok (.aload_n 0, 1) := by decide +kernel
theorem dX10_audit_1 : decode cX10_audit 1 = .ok (.iconst 0, 1) := by decide +kernel
theorem dX10_audit_2 : decode cX10_audit 2 = .ok (.putfield 58, 3) := by decide +kernel
theorem dX10_audit_5 : decode cX10_audit 5 = .ok (.aload_n 0, 1) := by decide +kernel
theorem dX10_audit_6 : decode cX10_audit 6 = .ok (.iload_n 1, 1) := by decide +kernel
theorem dX10_audit_7 : decode cX10_audit 7 = .ok (.invokevirtual 237, 3) := by decide +kernel
theorem dX10_audit_10 : decode cX10_audit 10 = .ok (.ifCond .ne 9, 3) := by decide +kernel
theorem dX10_audit_13 : decode cX10_audit 13 = .ok (.aload_n 0, 1) := by decide +kernel
theorem dX10_audit_14 : decode cX10_audit 14 = .ok (.iconst 1, 1) := by decide +kernel
theorem dX10_audit_15 : decode cX10_audit 15 = .ok (.invokevirtual 205, 3) := by decide +kernel
theorem dX10_audit_18 : decode cX10_audit 18 = .ok (.ireturn, 1) := by decide +kernel
theorem dX10_audit_19 : decode cX10_audit 19 = .ok (.iload_n 2, 1) := by decide +kernel
theorem dX10_audit_20 : decode cX10_audit 20 = .ok (.i2l, 1) := by decide +kernel
theorem dX10_audit_21 : decode cX10_audit 21 = .ok (.lconst 0, 1) := by decide +kernel
theorem dX10_audit_22 : decode cX10_audit 22 = .ok (.ldc2_w 291, 3) := by decide +kernel
theorem dX10_audit_25 : decode cX10_audit 25 = .ok (.invokestatic 89, 3) := by decide +kernel
theorem dX10_audit_28 : decode cX10_audit 28 = .ok (.ifCond .ne 9, 3) := by decide +kernel
theorem dX10_audit_31 : decode cX10_audit 31 = .ok (.aload_n 0, 1) := by decide +kernel
theorem dX10_audit_32 : decode cX10_audit 32 = .ok (.iconst 2, 1) := by decide +kernel
theorem dX10_audit_33 : decode cX10_audit 33 = .ok (.invokevirtual 205, 3) := by decide +kernel
theorem dX10_audit_36 : decode cX10_audit 36 = .ok (.ireturn, 1) := by decide +kernel
theorem dX10_audit_37 : decode cX10_audit 37 = .ok (.aload_n 0, 1) := by decide +kernel
theorem dX10_audit_38 : decode cX10_audit 38 = .ok (.getfield 29, 3) := by decide +kernel
theorem dX10_audit_41 : decode cX10_audit 41 = .ok (.sipush 262, 3) := by decide +kernel
theorem dX10_audit_44 : decode cX10_audit 44 = .ok (.iload_n 1, 1) := by decide +kernel
theorem dX10_audit_45 : decode cX10_audit 45 = .ok (.iadd, 1) := by decide +kernel
theorem dX10_audit_46 : decode cX10_audit 46 = .ok (.iaload, 1) := by decide +kernel
theorem dX10_audit_47 : decode cX10_audit 47 = .ok (.ifCond .le 9, 3) := by decide +kernel
theorem dX10_audit_50 : decode cX10_audit 50 = .ok (.aload_n 0, 1) := by decide +kernel
theorem dX10_audit_51 : decode cX10_audit 51 = .ok (.iconst 3, 1) := by decide +kernel
theorem dX10_audit_52 : decode cX10_audit 52 = .ok (.invokevirtual 205, 3) := by decide +kernel
theorem dX10_audit_55 : decode cX10_audit 55 = .ok (.ireturn, 1) := by decide +kernel
theorem dX10_audit_56 : decode cX10_audit 56 = .ok (.aload_n 0, 1) := by decide +kernel
theorem dX10_audit_57 : decode cX10_audit 57 = .ok (.invokevirtual 271, 3) := by decide +kernel
theorem dX10_audit_60 : decode cX10_audit 60 = .ok (.aload_n 0, 1) := by decide +kernel
theorem dX10_audit_61 : decode cX10_audit 61 = .ok (.getfield 29, 3) := by decide +kernel
theorem dX10_audit_64 : decode cX10_audit 64 = .ok (.sipush 262, 3) := by decide +kernel
theorem dX10_audit_67 : decode cX10_audit 67 = .ok (.iload_n 1, 1) := by decide +kernel
theorem dX10_audit_68 : decode cX10_audit 68 = .ok (.iadd, 1) := by decide +kernel
theorem dX10_audit_69 : decode cX10_audit 69 = .ok (.iload_n 2, 1) := by decide +kernel
theorem dX10_audit_70 : decode cX10_audit 70 = .ok (.iconst 1, 1) := by decide +kernel
theorem dX10_audit_71 : decode cX10_audit 71 = .ok (.iadd, 1) := by decide +kernel
theorem dX10_audit_72 : decode cX10_audit 72 = .ok (.iastore, 1) := by decide +kernel
theorem dX10_audit_73 : decode cX10_audit 73 = .ok (.iload_n 2, 1) := by decide +kernel
theorem dX10_audit_74 : decode cX10_audit 74 = .ok (.aload_n 0, 1) := by decide +kernel
theorem dX10_audit_75 : decode cX10_audit 75 = .ok (.getfield 29, 3) := by decide +kernel
theorem dX10_audit_78 : decode cX10_audit 78 = .ok (.sipush 232, 3) := by decide +kernel
theorem dX10_audit_81 : decode cX10_audit 81 = .ok (.iload_n 1, 1) := by decide +kernel
theorem dX10_audit_82 : decode cX10_audit 82 = .ok (.iadd, 1) := by decide +kernel
theorem dX10_audit_83 : decode cX10_audit 83 = .ok (.iaload, 1) := by decide +kernel
theorem dX10_audit_84 : decode cX10_audit 84 = .ok (.isub, 1) := by decide +kernel
theorem dX10_audit_85 : decode cX10_audit 85 = .ok (.ireturn, 1) := by decide +kernel
def fn_X10_audit (N : Nat) (M : Mem) (a0 : Nat) (x1 : Int32) (x2 : Int32) : Option (Int32 × Mem) :=
  (mm_pV M a0 10 0 (.int 0)).bind fun M1 =>
  (mm_ck M1 a0 10).bind fun _ => mm_b2 (fn_X10_isBag N M1 a0 x1) fun v3 M2 =>
  if v3 = 0 then
    (mm_ck M2 a0 10).bind fun _ => mm_b2 (fn_X10_fail N M2 a0 1) fun v18 M17 =>
    some (v18, M17)
  else
    mm_b2 (fn_X10_within N M2 ((Int32.toInt64 x2)) 0 200) fun v5 M4 =>
    if v5 = 0 then
      (mm_ck M4 a0 10).bind fun _ => mm_b2 (fn_X10_fail N M4 a0 2) fun v16 M15 =>
      some (v16, M15)
    else
      (mm_gR M4 a0 10 16).bind fun b6 =>
      (mm_aI M4 b6 0 (262 + x1)).bind fun v7 =>
      if v7 ≤ 0 then
        (mm_ck M4 a0 10).bind fun _ => mm_b2 (fn_X10_keep N M4 a0) fun _ M8 =>
        (mm_gR M8 a0 10 16).bind fun b9 =>
        (mm_sI M8 b9 0 (262 + x1) (x2 + 1)).bind fun M10 =>
        (mm_gR M10 a0 10 16).bind fun b11 =>
        (mm_aI M10 b11 0 (232 + x1)).bind fun v12 =>
        some ((x2 - v12), M10)
      else
        (mm_ck M4 a0 10).bind fun _ => mm_b2 (fn_X10_fail N M4 a0 3) fun v14 M13 =>
        some (v14, M13)
set_option maxRecDepth 100000 in
set_option maxHeartbeats 4000000 in
theorem ct_X10_audit {l : Launch} {ω : Wd} {k N : Nat} {M : Mem} {a0 : Nat} {x1 : Int32} {x2 : Int32} {r : Int32} {M' : Mem} (h : fn_X10_audit N M a0 x1 x2 = some (r, M')) : CM l ω k yX10_audit cX10_audit 3 (some .int) 2 0 0 [.ref a0, .int x1, .int x2] M (some (.int r)) M' := by
  refine CM.of (by decide) (Nat.le_of_ble_eq_true rfl) fun Γ hl C hr hi => ?_
  subst hl
  unfold fn_X10_audit at h
  refine jv_aload_n C dX10_audit_0 rfl 0 rfl ?_
  refine jv_iconst (v := 0) C dX10_audit_1 (by decide) ?_
  refine jv_putI C fp_X10_58 dX10_audit_2 h (fun M1 h => ?_)
  refine jv_aload_n C dX10_audit_5 rfl 0 rfl ?_
  refine jv_iload_n C dX10_audit_6 rfl 1 rfl ?_
  refine jv_vI0 (As := [.int x1]) C lk_X10_237 rfl dX10_audit_7 rfl rfl (by decide) (by decide) (by decide) (Nat.le_of_ble_eq_true rfl) h (fun _ _ h => ct_X10_isBag h) (fun v3 M2 h => ?_)
  refine jv_if_ne (tgt := 19) C dX10_audit_10 (by decide) h (fun h => ?_) (fun h => ?_)
  · refine jv_iload_n C dX10_audit_19 rfl 2 rfl ?_
    refine jv_i2l C dX10_audit_20 ?_
    refine jv_lconst (v := 0) C dX10_audit_21 (by decide) ?_
    refine jv_ldc2 C gw_1795 dX10_audit_22 ?_
    refine jv_sI0 (As := [.long (Int32.toInt64 x2), .long 0, .long 200]) C lk_X10_89 dX10_audit_25 rfl rfl (by decide) (by decide) (by decide) (Nat.le_of_ble_eq_true rfl) h (fun _ _ h => ct_X10_within h) (fun v5 M4 h => ?_)
    refine jv_if_ne (tgt := 37) C dX10_audit_28 (by decide) h (fun h => ?_) (fun h => ?_)
    · refine jv_aload_n C dX10_audit_37 rfl 0 rfl ?_
      refine jv_getR C fa_X10_29 dX10_audit_38 h (fun b6 h => ?_)
      refine jv_sipush (v := 262) C dX10_audit_41 (by decide) ?_
      refine jv_iload_n C dX10_audit_44 rfl 1 rfl ?_
      refine jv_iadd C dX10_audit_45 ?_
      refine jv_iald C dX10_audit_46 h (fun v7 h => ?_)
      refine jv_if_le (tgt := 56) C dX10_audit_47 (by decide) h (fun h => ?_) (fun h => ?_)
      · refine jv_aload_n C dX10_audit_56 rfl 0 rfl ?_
        refine jv_vV0 (As := []) C lk_X10_271 rfl dX10_audit_57 rfl rfl (by decide) (by decide) (by decide) (Nat.le_of_ble_eq_true rfl) h (fun _ _ h => ct_X10_keep h) (fun _ M8 h => ?_)
        refine jv_aload_n C dX10_audit_60 rfl 0 rfl ?_
        refine jv_getR C fa_X10_29 dX10_audit_61 h (fun b9 h => ?_)
        refine jv_sipush (v := 262) C dX10_audit_64 (by decide) ?_
        refine jv_iload_n C dX10_audit_67 rfl 1 rfl ?_
        refine jv_iadd C dX10_audit_68 ?_
        refine jv_iload_n C dX10_audit_69 rfl 2 rfl ?_
        refine jv_iconst (v := 1) C dX10_audit_70 (by decide) ?_
        refine jv_iadd C dX10_audit_71 ?_
        refine jv_iast C dX10_audit_72 h (fun M10 h => ?_)
        refine jv_iload_n C dX10_audit_73 rfl 2 rfl ?_
        refine jv_aload_n C dX10_audit_74 rfl 0 rfl ?_
        refine jv_getR C fa_X10_29 dX10_audit_75 h (fun b11 h => ?_)
        refine jv_sipush (v := 232) C dX10_audit_78 (by decide) ?_
        refine jv_iload_n C dX10_audit_81 rfl 1 rfl ?_
        refine jv_iadd C dX10_audit_82 ?_
        refine jv_iald C dX10_audit_83 h (fun v12 h => ?_)
        refine jv_isub C dX10_audit_84 ?_
        exact jv_iret C hr dX10_audit_85 h
      · refine jv_aload_n C dX10_audit_50 rfl 0 rfl ?_
        refine jv_iconst (v := 3) C dX10_audit_51 (by decide) ?_
        refine jv_vI0 (As := [.int 3]) C lk_X10_205 rfl dX10_audit_52 rfl rfl (by decide) (by decide) (by decide) (Nat.le_of_ble_eq_true rfl) h (fun _ _ h => ct_X10_fail h) (fun v14 M13 h => ?_)
        exact jv_iret C hr dX10_audit_55 h
    · refine jv_aload_n C dX10_audit_31 rfl 0 rfl ?_
      refine jv_iconst (v := 2) C dX10_audit_32 (by decide) ?_
      refine jv_vI0 (As := [.int 2]) C lk_X10_205 rfl dX10_audit_33 rfl rfl (by decide) (by decide) (by decide) (Nat.le_of_ble_eq_true rfl) h (fun _ _ h => ct_X10_fail h) (fun v16 M15 h => ?_)
      exact jv_iret C hr dX10_audit_36 h
  · refine jv_aload_n C dX10_audit_13 rfl 0 rfl ?_
    refine jv_iconst (v := 1) C dX10_audit_14 (by decide) ?_
    refine jv_vI0 (As := [.int 1]) C lk_X10_205 rfl dX10_audit_15 rfl rfl (by decide) (by decide) (by decide) (Nat.le_of_ble_eq_true rfl) h (fun _ _ h => ct_X10_fail h) (fun v18 M17 h => ?_)
    exact jv_iret C hr dX10_audit_18 h
theorem dX10_bagCoins_0 : decode cX10_bagCoins 0 = .ok (.aload_n 0, 1) := by decide +kernel
theorem dX10_bagCoins_1 : decode cX10_bagCoins 1 = .ok (.aload_n 0, 1) := by decide +kernel
theorem dX10_bagCoins_2 : decode cX10_bagCoins 2 = .ok (.iload_n 1, 1) := by decide +kernel
theorem dX10_bagCoins_3 : decode cX10_bagCoins 3 = .ok (.invokevirtual 237, 3) := by decide +kernel
theorem dX10_bagCoins_6 : decode cX10_bagCoins 6 = .ok (.ifCond .eq 16, 3) := by decide +kernel
theorem dX10_bagCoins_9 : decode cX10_bagCoins 9 = .ok (.aload_n 0, 1) := by decide +kernel
theorem dX10_bagCoins_10 : decode cX10_bagCoins 10 = .ok (.getfield 29, 3) := by decide +kernel
theorem dX10_bagCoins_13 : decode cX10_bagCoins 13 = .ok (.sipush 232, 3) := by decide +kernel
theorem dX10_bagCoins_16 : decode cX10_bagCoins 16 = .ok (.iload_n 1, 1) := by decide +kernel
theorem dX10_bagCoins_17 : decode cX10_bagCoins 17 = .ok (.iadd, 1) := by decide +kernel
theorem dX10_bagCoins_18 : decode cX10_bagCoins 18 = .ok (.iaload, 1) := by decide +kernel
theorem dX10_bagCoins_19 : decode cX10_bagCoins 19 = .ok (.goto 4, 3) := by decide +kernel
theorem dX10_bagCoins_22 : decode cX10_bagCoins 22 = .ok (.iconst (-1), 1) := by decide +kernel
theorem dX10_bagCoins_23 : decode cX10_bagCoins 23 = .ok (.invokevirtual 167, 3) := by decide +kernel
theorem dX10_bagCoins_26 : decode cX10_bagCoins 26 = .ok (.ireturn, 1) := by decide +kernel
def fn_X10_bagCoins (N : Nat) (M : Mem) (a0 : Nat) (x1 : Int32) : Option (Int32 × Mem) :=
  (mm_ck M a0 10).bind fun _ => mm_b2 (fn_X10_isBag N M a0 x1) fun v2 M1 =>
  if v2 = 0 then
    (mm_ck M1 a0 10).bind fun _ => mm_b2 (fn_X10_told N M1 a0 ((-1))) fun v4 M3 =>
    some (v4, M3)
  else
    (mm_gR M1 a0 10 16).bind fun b5 =>
    (mm_aI M1 b5 0 (232 + x1)).bind fun v6 =>
    (mm_ck M1 a0 10).bind fun _ => mm_b2 (fn_X10_told N M1 a0 v6) fun v8 M7 =>
    some (v8, M7)
set_option maxRecDepth 100000 in
set_option maxHeartbeats 4000000 in
theorem ct_X10_bagCoins {l : Launch} {ω : Wd} {k N : Nat} {M : Mem} {a0 : Nat} {x1 : Int32} {r : Int32} {M' : Mem} (h : fn_X10_bagCoins N M a0 x1 = some (r, M')) : CM l ω k yX10_bagCoins cX10_bagCoins 2 (some .int) 2 0 0 [.ref a0, .int x1] M (some (.int r)) M' := by
  refine CM.of (by decide) (Nat.le_of_ble_eq_true rfl) fun Γ hl C hr hi => ?_
  subst hl
  unfold fn_X10_bagCoins at h
  refine jv_aload_n C dX10_bagCoins_0 rfl 0 rfl ?_
  refine jv_aload_n C dX10_bagCoins_1 rfl 0 rfl ?_
  refine jv_iload_n C dX10_bagCoins_2 rfl 1 rfl ?_
  refine jv_vI0 (As := [.int x1]) C lk_X10_237 rfl dX10_bagCoins_3 rfl rfl (by decide) (by decide) (by decide) (Nat.le_of_ble_eq_true rfl) h (fun _ _ h => ct_X10_isBag h) (fun v2 M1 h => ?_)
  refine jv_if_eq (tgt := 22) C dX10_bagCoins_6 (by decide) h (fun h => ?_) (fun h => ?_)
  · refine jv_iconst (v := (-1)) C dX10_bagCoins_22 (by decide) ?_
    refine jv_vI0 (As := [.int (-1)]) C lk_X10_167 rfl dX10_bagCoins_23 rfl rfl (by decide) (by decide) (by decide) (Nat.le_of_ble_eq_true rfl) h (fun _ _ h => ct_X10_told h) (fun v4 M3 h => ?_)
    exact jv_iret C hr dX10_bagCoins_26 h
  · refine jv_aload_n C dX10_bagCoins_9 rfl 0 rfl ?_
    refine jv_getR C fa_X10_29 dX10_bagCoins_10 h (fun b5 h => ?_)
    refine jv_sipush (v := 232) C dX10_bagCoins_13 (by decide) ?_
    refine jv_iload_n C dX10_bagCoins_16 rfl 1 rfl ?_
    refine jv_iadd C dX10_bagCoins_17 ?_
    refine jv_iald C dX10_bagCoins_18 h (fun v6 h => ?_)
    refine jv_goto (tgt := 23) C dX10_bagCoins_19 (by decide) ?_
    refine jv_vI0 (As := [.int v6]) C lk_X10_167 rfl dX10_bagCoins_23 rfl rfl (by decide) (by decide) (by decide) (Nat.le_of_ble_eq_true rfl) h (fun _ _ h => ct_X10_told h) (fun v8 M7 h => ?_)
    exact jv_iret C hr dX10_bagCoins_26 h
theorem dX10_bagCount_0 : decode cX10_bagCount 0 = .ok (.aload_n 0, 1) := by decide +kernel
theorem dX10_bagCount_1 : decode cX10_bagCount 1 = .ok (.aload_n 0, 1) := by decide +kernel
theorem dX10_bagCount_2 : decode cX10_bagCount 2 = .ok (.getfield 29, 3) := by decide +kernel
theorem dX10_bagCount_5 : decode cX10_bagCount 5 = .ok (.bipush 8, 2) := by decide +kernel
theorem dX10_bagCount_7 : decode cX10_bagCount 7 = .ok (.iaload, 1) := by decide +kernel
theorem dX10_bagCount_8 : decode cX10_bagCount 8 = .ok (.invokevirtual 167, 3) := by decide +kernel
theorem dX10_bagCount_11 : decode cX10_bagCount 11 = .ok (.ireturn, 1) := by decide +kernel
def fn_X10_bagCount (N : Nat) (M : Mem) (a0 : Nat) : Option (Int32 × Mem) :=
  (mm_gR M a0 10 16).bind fun b1 =>
  (mm_aI M b1 0 8).bind fun v2 =>
  (mm_ck M a0 10).bind fun _ => mm_b2 (fn_X10_told N M a0 v2) fun v4 M3 =>
  some (v4, M3)
set_option maxRecDepth 100000 in
set_option maxHeartbeats 4000000 in
theorem ct_X10_bagCount {l : Launch} {ω : Wd} {k N : Nat} {M : Mem} {a0 : Nat} {r : Int32} {M' : Mem} (h : fn_X10_bagCount N M a0 = some (r, M')) : CM l ω k yX10_bagCount cX10_bagCount 1 (some .int) 1 0 0 [.ref a0] M (some (.int r)) M' := by
  refine CM.of (by decide) (Nat.le_of_ble_eq_true rfl) fun Γ hl C hr hi => ?_
  subst hl
  unfold fn_X10_bagCount at h
  refine jv_aload_n C dX10_bagCount_0 rfl 0 rfl ?_
  refine jv_aload_n C dX10_bagCount_1 rfl 0 rfl ?_
  refine jv_getR C fa_X10_29 dX10_bagCount_2 h (fun b1 h => ?_)
  refine jv_bipush (v := 8) C dX10_bagCount_5 (by decide) ?_
  refine jv_iald C dX10_bagCount_7 h (fun v2 h => ?_)
  refine jv_vI0 (As := [.int v2]) C lk_X10_167 rfl dX10_bagCount_8 rfl rfl (by decide) (by decide) (by decide) (Nat.le_of_ble_eq_true rfl) h (fun _ _ h => ct_X10_told h) (fun v4 M3 h => ?_)
  exact jv_iret C hr dX10_bagCount_11 h
theorem dX10_isBin_0 : decode cX10_isBin 0 = .ok (.iload_n 1, 1) := by decide +kernel
theorem dX10_isBin_1 : decode cX10_isBin 1 = .ok (.i2l, 1) := by decide +kernel
theorem dX10_isBin_2 : decode cX10_isBin 2 = .ok (.lconst 0, 1) := by decide +kernel
theorem dX10_isBin_3 : decode cX10_isBin 3 = .ok (.aload_n 0, 1) := by decide +kernel
theorem dX10_isBin_4 : decode cX10_isBin 4 = .ok (.getfield 13, 3) := by decide +kernel
theorem dX10_isBin_7 : decode cX10_isBin 7 = .ok (.iconst 2, 1) := by decide +kernel
theorem dX10_isBin_8 : decode cX10_isBin 8 = .ok (.iaload, 1) := by decide +kernel
theorem dX10_isBin_9 : decode cX10_isBin 9 = .ok (.iconst 1, 1) := by decide +kernel
theorem dX10_isBin_10 : decode cX10_isBin 10 = .ok (.isub, 1) := by decide +kernel
theorem dX10_isBin_11 : decode cX10_isBin 11 = .ok (.i2l, 1) := by decide +kernel
theorem dX10_isBin_12 : decode cX10_isBin 12 = .ok (.invokestatic 89, 3) := by decide +kernel
theorem dX10_isBin_15 : decode cX10_isBin 15 = .ok (.ireturn, 1) := by decide +kernel
def fn_X10_isBin (N : Nat) (M : Mem) (a0 : Nat) (x1 : Int32) : Option (Int32 × Mem) :=
  (mm_gR M a0 10 10).bind fun b1 =>
  (mm_aI M b1 0 2).bind fun v2 =>
  mm_b2 (fn_X10_within N M ((Int32.toInt64 x1)) 0 ((Int32.toInt64 (v2 - 1)))) fun v4 M3 =>
  if v4 = 0 ∨ v4 = 1 then some (v4, M3) else none
set_option maxRecDepth 100000 in
set_option maxHeartbeats 4000000 in
theorem ct_X10_isBin {l : Launch} {ω : Wd} {k N : Nat} {M : Mem} {a0 : Nat} {x1 : Int32} {r : Int32} {M' : Mem} (h : fn_X10_isBin N M a0 x1 = some (r, M')) : CM l ω k yX10_isBin cX10_isBin 2 (some .boolean) 1 0 0 [.ref a0, .int x1] M (some (.int r)) M' := by
  refine CM.of (by decide) (Nat.le_of_ble_eq_true rfl) fun Γ hl C hr hi => ?_
  subst hl
  unfold fn_X10_isBin at h
  refine jv_iload_n C dX10_isBin_0 rfl 1 rfl ?_
  refine jv_i2l C dX10_isBin_1 ?_
  refine jv_lconst (v := 0) C dX10_isBin_2 (by decide) ?_
  refine jv_aload_n C dX10_isBin_3 rfl 0 rfl ?_
  refine jv_getR C fa_X10_13 dX10_isBin_4 h (fun b1 h => ?_)
  refine jv_iconst (v := 2) C dX10_isBin_7 (by decide) ?_
  refine jv_iald C dX10_isBin_8 h (fun v2 h => ?_)
  refine jv_iconst (v := 1) C dX10_isBin_9 (by decide) ?_
  refine jv_isub C dX10_isBin_10 ?_
  refine jv_i2l C dX10_isBin_11 ?_
  refine jv_sI0 (As := [.long (Int32.toInt64 x1), .long 0, .long (Int32.toInt64 (v2 - 1))]) C lk_X10_89 dX10_isBin_12 rfl rfl (by decide) (by decide) (by decide) (Nat.le_of_ble_eq_true rfl) h (fun _ _ h => ct_X10_within h) (fun v4 M3 h => ?_)
  exact jv_zret C hr dX10_isBin_15 h
theorem dX10_bagSize_0 : decode cX10_bagSize 0 = .ok (.aload_n 0, 1) := by decide +kernel
theorem dX10_bagSize_1 : decode cX10_bagSize 1 = .ok (.aload_n 0, 1) := by decide +kernel
theorem dX10_bagSize_2 : decode cX10_bagSize 2 = .ok (.iload_n 1, 1) := by decide +kernel
theorem dX10_bagSize_3 : decode cX10_bagSize 3 = .ok (.invokevirtual 174, 3) := by decide +kernel
theorem dX10_bagSize_6 : decode cX10_bagSize 6 = .ok (.ifCond .eq 12, 3) := by decide +kernel
theorem dX10_bagSize_9 : decode cX10_bagSize 9 = .ok (.aload_n 0, 1) := by decide +kernel
theorem dX10_bagSize_10 : decode cX10_bagSize 10 = .ok (.getfield 26, 3) := by decide +kernel
theorem dX10_bagSize_13 : decode cX10_bagSize 13 = .ok (.iload_n 1, 1) := by decide +kernel
theorem dX10_bagSize_14 : decode cX10_bagSize 14 = .ok (.iaload, 1) := by decide +kernel
theorem dX10_bagSize_15 : decode cX10_bagSize 15 = .ok (.goto 4, 3) := by decide +kernel
theorem dX10_bagSize_18 : decode cX10_bagSize 18 = .ok (.iconst (-1), 1) := by decide +kernel
theorem dX10_bagSize_19 : decode cX10_bagSize 19 = .ok (.invokevirtual 167, 3) := by decide +kernel
theorem dX10_bagSize_22 : decode cX10_bagSize 22 = .ok (.ireturn, 1) := by decide +kernel
def fn_X10_bagSize (N : Nat) (M : Mem) (a0 : Nat) (x1 : Int32) : Option (Int32 × Mem) :=
  (mm_ck M a0 10).bind fun _ => mm_b2 (fn_X10_isBin N M a0 x1) fun v2 M1 =>
  if v2 = 0 then
    (mm_ck M1 a0 10).bind fun _ => mm_b2 (fn_X10_told N M1 a0 ((-1))) fun v4 M3 =>
    some (v4, M3)
  else
    (mm_gR M1 a0 10 14).bind fun b5 =>
    (mm_aI M1 b5 0 x1).bind fun v6 =>
    (mm_ck M1 a0 10).bind fun _ => mm_b2 (fn_X10_told N M1 a0 v6) fun v8 M7 =>
    some (v8, M7)
set_option maxRecDepth 100000 in
set_option maxHeartbeats 4000000 in
theorem ct_X10_bagSize {l : Launch} {ω : Wd} {k N : Nat} {M : Mem} {a0 : Nat} {x1 : Int32} {r : Int32} {M' : Mem} (h : fn_X10_bagSize N M a0 x1 = some (r, M')) : CM l ω k yX10_bagSize cX10_bagSize 2 (some .int) 2 0 0 [.ref a0, .int x1] M (some (.int r)) M' := by
  refine CM.of (by decide) (Nat.le_of_ble_eq_true rfl) fun Γ hl C hr hi => ?_
  subst hl
  unfold fn_X10_bagSize at h
  refine jv_aload_n C dX10_bagSize_0 rfl 0 rfl ?_
  refine jv_aload_n C dX10_bagSize_1 rfl 0 rfl ?_
  refine jv_iload_n C dX10_bagSize_2 rfl 1 rfl ?_
  refine jv_vI0 (As := [.int x1]) C lk_X10_174 rfl dX10_bagSize_3 rfl rfl (by decide) (by decide) (by decide) (Nat.le_of_ble_eq_true rfl) h (fun _ _ h => ct_X10_isBin h) (fun v2 M1 h => ?_)
  refine jv_if_eq (tgt := 18) C dX10_bagSize_6 (by decide) h (fun h => ?_) (fun h => ?_)
  · refine jv_iconst (v := (-1)) C dX10_bagSize_18 (by decide) ?_
    refine jv_vI0 (As := [.int (-1)]) C lk_X10_167 rfl dX10_bagSize_19 rfl rfl (by decide) (by decide) (by decide) (Nat.le_of_ble_eq_true rfl) h (fun _ _ h => ct_X10_told h) (fun v4 M3 h => ?_)
    exact jv_iret C hr dX10_bagSize_22 h
  · refine jv_aload_n C dX10_bagSize_9 rfl 0 rfl ?_
    refine jv_getR C fa_X10_26 dX10_bagSize_10 h (fun b5 h => ?_)
    refine jv_iload_n C dX10_bagSize_13 rfl 1 rfl ?_
    refine jv_iald C dX10_bagSize_14 h (fun v6 h => ?_)
    refine jv_goto (tgt := 19) C dX10_bagSize_15 (by decide) ?_
    refine jv_vI0 (As := [.int v6]) C lk_X10_167 rfl dX10_bagSize_19 rfl rfl (by decide) (by decide) (by decide) (Nat.le_of_ble_eq_true rfl) h (fun _ _ h => ct_X10_told h) (fun v8 M7 h => ?_)
    exact jv_iret C hr dX10_bagSize_22 h
theorem dX10_bagType_0 : decode cX10_bagType 0 = .ok (.aload_n 0, 1) := by decide +kernel
theorem dX10_bagType_1 : decode cX10_bagType 1 = .ok (.aload_n 0, 1) := by decide +kernel
theorem dX10_bagType_2 : decode cX10_bagType 2 = .ok (.iload_n 1, 1) := by decide +kernel
theorem dX10_bagType_3 : decode cX10_bagType 3 = .ok (.invokevirtual 237, 3) := by decide +kernel
theorem dX10_bagType_6 : decode cX10_bagType 6 = .ok (.ifCond .eq 16, 3) := by decide +kernel
theorem dX10_bagType_9 : decode cX10_bagType 9 = .ok (.aload_n 0, 1) := by decide +kernel
theorem dX10_bagType_10 : decode cX10_bagType 10 = .ok (.getfield 29, 3) := by decide +kernel
theorem dX10_bagType_13 : decode cX10_bagType 13 = .ok (.sipush 202, 3) := by decide +kernel
theorem dX10_bagType_16 : decode cX10_bagType 16 = .ok (.iload_n 1, 1) := by decide +kernel
theorem dX10_bagType_17 : decode cX10_bagType 17 = .ok (.iadd, 1) := by decide +kernel
theorem dX10_bagType_18 : decode cX10_bagType 18 = .ok (.iaload, 1) := by decide +kernel
theorem dX10_bagType_19 : decode cX10_bagType 19 = .ok (.goto 4, 3) := by decide +kernel
theorem dX10_bagType_22 : decode cX10_bagType 22 = .ok (.iconst (-1), 1) := by decide +kernel
theorem dX10_bagType_23 : decode cX10_bagType 23 = .ok (.invokevirtual 167, 3) := by decide +kernel
theorem dX10_bagType_26 : decode cX10_bagType 26 = .ok (.ireturn, 1) := by decide +kernel
def fn_X10_bagType (N : Nat) (M : Mem) (a0 : Nat) (x1 : Int32) : Option (Int32 × Mem) :=
  (mm_ck M a0 10).bind fun _ => mm_b2 (fn_X10_isBag N M a0 x1) fun v2 M1 =>
  if v2 = 0 then
    (mm_ck M1 a0 10).bind fun _ => mm_b2 (fn_X10_told N M1 a0 ((-1))) fun v4 M3 =>
    some (v4, M3)
  else
    (mm_gR M1 a0 10 16).bind fun b5 =>
    (mm_aI M1 b5 0 (202 + x1)).bind fun v6 =>
    (mm_ck M1 a0 10).bind fun _ => mm_b2 (fn_X10_told N M1 a0 v6) fun v8 M7 =>
    some (v8, M7)
set_option maxRecDepth 100000 in
set_option maxHeartbeats 4000000 in
theorem ct_X10_bagType {l : Launch} {ω : Wd} {k N : Nat} {M : Mem} {a0 : Nat} {x1 : Int32} {r : Int32} {M' : Mem} (h : fn_X10_bagType N M a0 x1 = some (r, M')) : CM l ω k yX10_bagType cX10_bagType 2 (some .int) 2 0 0 [.ref a0, .int x1] M (some (.int r)) M' := by
  refine CM.of (by decide) (Nat.le_of_ble_eq_true rfl) fun Γ hl C hr hi => ?_
  subst hl
  unfold fn_X10_bagType at h
  refine jv_aload_n C dX10_bagType_0 rfl 0 rfl ?_
  refine jv_aload_n C dX10_bagType_1 rfl 0 rfl ?_
  refine jv_iload_n C dX10_bagType_2 rfl 1 rfl ?_
  refine jv_vI0 (As := [.int x1]) C lk_X10_237 rfl dX10_bagType_3 rfl rfl (by decide) (by decide) (by decide) (Nat.le_of_ble_eq_true rfl) h (fun _ _ h => ct_X10_isBag h) (fun v2 M1 h => ?_)
  refine jv_if_eq (tgt := 22) C dX10_bagType_6 (by decide) h (fun h => ?_) (fun h => ?_)
  · refine jv_iconst (v := (-1)) C dX10_bagType_22 (by decide) ?_
    refine jv_vI0 (As := [.int (-1)]) C lk_X10_167 rfl dX10_bagType_23 rfl rfl (by decide) (by decide) (by decide) (Nat.le_of_ble_eq_true rfl) h (fun _ _ h => ct_X10_told h) (fun v4 M3 h => ?_)
    exact jv_iret C hr dX10_bagType_26 h
  · refine jv_aload_n C dX10_bagType_9 rfl 0 rfl ?_
    refine jv_getR C fa_X10_29 dX10_bagType_10 h (fun b5 h => ?_)
    refine jv_sipush (v := 202) C dX10_bagType_13 (by decide) ?_
    refine jv_iload_n C dX10_bagType_16 rfl 1 rfl ?_
    refine jv_iadd C dX10_bagType_17 ?_
    refine jv_iald C dX10_bagType_18 h (fun v6 h => ?_)
    refine jv_goto (tgt := 23) C dX10_bagType_19 (by decide) ?_
    refine jv_vI0 (As := [.int v6]) C lk_X10_167 rfl dX10_bagType_23 rfl rfl (by decide) (by decide) (by decide) (Nat.le_of_ble_eq_true rfl) h (fun _ _ h => ct_X10_told h) (fun v8 M7 h => ?_)
    exact jv_iret C hr dX10_bagType_26 h
theorem dX10_deviation_0 : decode cX10_deviation 0 = .ok (.iload_n 0, 1) := by decide +kernel
theorem dX10_deviation_1 : decode cX10_deviation 1 = .ok (.iload_n 1, 1) := by decide +kernel
theorem dX10_deviation_2 : decode cX10_deviation 2 = .ok (.if_icmp .ge 9, 3) := by decide +kernel
theorem dX10_deviation_5 : decode cX10_deviation 5 = .ok (.iload_n 1, 1) := by decide +kernel
theorem dX10_deviation_6 : decode cX10_deviation 6 = .ok (.iload_n 0, 1) := by decide +kernel
theorem dX10_deviation_7 : decode cX10_deviation 7 = .ok (.isub, 1) := by decide +kernel
theorem dX10_deviation_8 : decode cX10_deviation 8 = .ok (.goto 6, 3) := by decide +kernel
theorem dX10_deviation_11 : decode cX10_deviation 11 = .ok (.iload_n 0, 1) := by decide +kernel
theorem dX10_deviation_12 : decode cX10_deviation 12 = .ok (.iload_n 1, 1) := by decide +kernel
theorem dX10_deviation_13 : decode cX10_deviation 13 = .ok (.isub, 1) := by decide +kernel
theorem dX10_deviation_14 : decode cX10_deviation 14 = .ok (.istore_n 3, 1) := by decide +kernel
theorem dX10_deviation_15 : decode cX10_deviation 15 = .ok (.sipush 1000, 3) := by decide +kernel
theorem dX10_deviation_18 : decode cX10_deviation 18 = .ok (.iload_n 3, 1) := by decide +kernel
theorem dX10_deviation_19 : decode cX10_deviation 19 = .ok (.imul, 1) := by decide +kernel
theorem dX10_deviation_20 : decode cX10_deviation 20 = .ok (.iload_n 2, 1) := by decide +kernel
theorem dX10_deviation_21 : decode cX10_deviation 21 = .ok (.iadd, 1) := by decide +kernel
theorem dX10_deviation_22 : decode cX10_deviation 22 = .ok (.iconst 1, 1) := by decide +kernel
theorem dX10_deviation_23 : decode cX10_deviation 23 = .ok (.isub, 1) := by decide +kernel
theorem dX10_deviation_24 : decode cX10_deviation 24 = .ok (.iload_n 2, 1) := by decide +kernel
theorem dX10_deviation_25 : decode cX10_deviation 25 = .ok (.idiv, 1) := by decide +kernel
theorem dX10_deviation_26 : decode cX10_deviation 26 = .ok (.ireturn, 1) := by decide +kernel
def fn_X10_deviation_14 (N : Nat) (M : Mem) (x2 : Int32) (s0 : Int32) : Option (Int32 × Mem) :=
  (mm_dI (((1000 * s0) + x2) - 1) x2).bind fun v1 =>
  some (v1, M)
set_option maxRecDepth 100000 in
set_option maxHeartbeats 4000000 in
theorem bk_X10_deviation_14 {Γ : Gm} {ω : Wd} {k N : Nat} {r : Int32} {M' : Mem} (C : Cx Γ cX10_deviation 4 RX10 ω 0 0 0) (hr : Γ.meth.sig.returnType = (some .int)) (M : Mem) (x2 : Int32) (s0 : Int32) (h : fn_X10_deviation_14 N M x2 s0 = some (r, M')) : JJ Γ (QF Γ ω k 0 0 (some (.int r)) M') 4 ω k M 0 0 14 [(2, .int x2)] [.int s0] := by
  unfold fn_X10_deviation_14 at h
  refine jv_istore_n (lv' := [(3, .int s0), (2, .int x2)]) C dX10_deviation_14 rfl (by decide) rfl ?_
  refine jv_sipush (v := 1000) C dX10_deviation_15 (by decide) ?_
  refine jv_iload_n C dX10_deviation_18 rfl 0 rfl ?_
  refine jv_imul C dX10_deviation_19 ?_
  refine jv_iload_n C dX10_deviation_20 rfl 1 rfl ?_
  refine jv_iadd C dX10_deviation_21 ?_
  refine jv_iconst (v := 1) C dX10_deviation_22 (by decide) ?_
  refine jv_isub C dX10_deviation_23 ?_
  refine jv_iload_n C dX10_deviation_24 rfl 1 rfl ?_
  refine jv_idiv C dX10_deviation_25 h (fun v1 h => ?_)
  exact jv_iret C hr dX10_deviation_26 h
def fn_X10_deviation (N : Nat) (M : Mem) (x0 : Int32) (x1 : Int32) (x2 : Int32) : Option (Int32 × Mem) :=
  if x1 ≤ x0 then
    fn_X10_deviation_14 N M x2 ((x0 - x1))
  else
    fn_X10_deviation_14 N M x2 ((x1 - x0))
set_option maxRecDepth 100000 in
set_option maxHeartbeats 4000000 in
theorem ct_X10_deviation {l : Launch} {ω : Wd} {k N : Nat} {M : Mem} {x0 : Int32} {x1 : Int32} {x2 : Int32} {r : Int32} {M' : Mem} (h : fn_X10_deviation N M x0 x1 x2 = some (r, M')) : CM l ω k yX10_deviation cX10_deviation 4 (some .int) 0 0 0 [.int x0, .int x1, .int x2] M (some (.int r)) M' := by
  refine CM.of (by decide) (Nat.le_of_ble_eq_true rfl) fun Γ hl C hr hi => ?_
  subst hl
  unfold fn_X10_deviation at h
  refine jv_iload_n C dX10_deviation_0 rfl 0 rfl ?_
  refine jv_iload_n C dX10_deviation_1 rfl 1 rfl ?_
  refine jv_icmp_ge (tgt := 11) C dX10_deviation_2 (by decide) h (fun h => ?_) (fun h => ?_)
  · refine jv_iload_n C dX10_deviation_11 rfl 0 rfl ?_
    refine jv_iload_n C dX10_deviation_12 rfl 1 rfl ?_
    refine jv_isub C dX10_deviation_13 ?_
    refine jv_sub [2] rfl ?_
    exact bk_X10_deviation_14 C hr _ _ _ h
  · refine jv_iload_n C dX10_deviation_5 rfl 1 rfl ?_
    refine jv_iload_n C dX10_deviation_6 rfl 0 rfl ?_
    refine jv_isub C dX10_deviation_7 ?_
    refine jv_goto (tgt := 14) C dX10_deviation_8 (by decide) ?_
    refine jv_sub [2] rfl ?_
    exact bk_X10_deviation_14 C hr _ _ _ h
theorem dX10_scoreFor_0 : decode cX10_scoreFor 0 = .ok (.iconst 5, 1) := by decide +kernel
theorem dX10_scoreFor_1 : decode cX10_scoreFor 1 = .ok (.iload_n 1, 1) := by decide +kernel
theorem dX10_scoreFor_2 : decode cX10_scoreFor 2 = .ok (.imul, 1) := by decide +kernel
theorem dX10_scoreFor_3 : decode cX10_scoreFor 3 = .ok (.istore 4, 2) := by decide +kernel
theorem dX10_scoreFor_5 : decode cX10_scoreFor 5 = .ok (.iload_n 2, 1) := by decide +kernel
theorem dX10_scoreFor_6 : decode cX10_scoreFor 6 = .ok (.aload_n 0, 1) := by decide +kernel
theorem dX10_scoreFor_7 : decode cX10_scoreFor 7 = .ok (.getfield 29, 3) := by decide +kernel
theorem dX10_scoreFor_10 : decode cX10_scoreFor 10 = .ok (.iconst 0, 1) := by decide +kernel
theorem dX10_scoreFor_11 : decode cX10_scoreFor 11 = .ok (.iaload, 1) := by decide +kernel
theorem dX10_scoreFor_12 : decode cX10_scoreFor 12 = .ok (.iadd, 1) := by decide +kernel
theorem dX10_scoreFor_13 : decode cX10_scoreFor 13 = .ok (.aload_n 0, 1) := by decide +kernel
theorem dX10_scoreFor_14 : decode cX10_scoreFor 14 = .ok (.getfield 20, 3) := by decide +kernel
theorem dX10_scoreFor_17 : decode cX10_scoreFor 17 = .ok (.iload 4, 2) := by decide +kernel
theorem dX10_scoreFor_19 : decode cX10_scoreFor 19 = .ok (.iconst 1, 1) := by decide +kernel
theorem dX10_scoreFor_20 : decode cX10_scoreFor 20 = .ok (.iadd, 1) := by decide +kernel
theorem dX10_scoreFor_21 : decode cX10_scoreFor 21 = .ok (.iaload, 1) := by decide +kernel
theorem dX10_scoreFor_22 : decode cX10_scoreFor 22 = .ok (.aload_n 0, 1) := by decide +kernel
theorem dX10_scoreFor_23 : decode cX10_scoreFor 23 = .ok (.getfield 20, 3) := by decide +kernel
theorem dX10_scoreFor_26 : decode cX10_scoreFor 26 = .ok (.iload 4, 2) := by decide +kernel
theorem dX10_scoreFor_28 : decode cX10_scoreFor 28 = .ok (.iconst 1, 1) := by decide +kernel
theorem dX10_scoreFor_29 : decode cX10_scoreFor 29 = .ok (.iadd, 1) := by decide +kernel
theorem dX10_scoreFor_30 : decode cX10_scoreFor 30 = .ok (.iconst 1, 1) := by decide +kernel
theorem dX10_scoreFor_31 : decode cX10_scoreFor 31 = .ok (.iadd, 1) := by decide +kernel
theorem dX10_scoreFor_32 : decode cX10_scoreFor 32 = .ok (.iaload, 1) := by decide +kernel
theorem dX10_scoreFor_33 : decode cX10_scoreFor 33 = .ok (.invokestatic 177, 3) := by decide +kernel
theorem dX10_scoreFor_36 : decode cX10_scoreFor 36 = .ok (.istore 5, 2) := by decide +kernel
theorem dX10_scoreFor_38 : decode cX10_scoreFor 38 = .ok (.iload_n 3, 1) := by decide +kernel
theorem dX10_scoreFor_39 : decode cX10_scoreFor 39 = .ok (.aload_n 0, 1) := by decide +kernel
theorem dX10_scoreFor_40 : decode cX10_scoreFor 40 = .ok (.getfield 29, 3) := by decide +kernel
theorem dX10_scoreFor_43 : decode cX10_scoreFor 43 = .ok (.iconst 1, 1) := by decide +kernel
theorem dX10_scoreFor_44 : decode cX10_scoreFor 44 = .ok (.iaload, 1) := by decide +kernel
theorem dX10_scoreFor_45 : decode cX10_scoreFor 45 = .ok (.iadd, 1) := by decide +kernel
theorem dX10_scoreFor_46 : decode cX10_scoreFor 46 = .ok (.aload_n 0, 1) := by decide +kernel
theorem dX10_scoreFor_47 : decode cX10_scoreFor 47 = .ok (.getfield 20, 3) := by decide +kernel
theorem dX10_scoreFor_50 : decode cX10_scoreFor 50 = .ok (.iload 4, 2) := by decide +kernel
theorem dX10_scoreFor_52 : decode cX10_scoreFor 52 = .ok (.iconst 3, 1) := by decide +kernel
theorem dX10_scoreFor_53 : decode cX10_scoreFor 53 = .ok (.iadd, 1) := by decide +kernel
theorem dX10_scoreFor_54 : decode cX10_scoreFor 54 = .ok (.iaload, 1) := by decide +kernel
theorem dX10_scoreFor_55 : decode cX10_scoreFor 55 = .ok (.aload_n 0, 1) := by decide +kernel
theorem dX10_scoreFor_56 : decode cX10_scoreFor 56 = .ok (.getfield 20, 3) := by decide +kernel
theorem dX10_scoreFor_59 : decode cX10_scoreFor 59 = .ok (.iload 4, 2) := by decide +kernel
theorem dX10_scoreFor_61 : decode cX10_scoreFor 61 = .ok (.iconst 3, 1) := by decide +kernel
theorem dX10_scoreFor_62 : decode cX10_scoreFor 62 = .ok (.iadd, 1) := by decide +kernel
theorem dX10_scoreFor_63 : decode cX10_scoreFor 63 = .ok (.iconst 1, 1) := by decide +kernel
theorem dX10_scoreFor_64 : decode cX10_scoreFor 64 = .ok (.iadd, 1) := by decide +kernel
theorem dX10_scoreFor_65 : decode cX10_scoreFor 65 = .ok (.iaload, 1) := by decide +kernel
theorem dX10_scoreFor_66 : decode cX10_scoreFor 66 = .ok (.invokestatic 177, 3) := by decide +kernel
theorem dX10_scoreFor_69 : decode cX10_scoreFor 69 = .ok (.istore 6, 2) := by decide +kernel
theorem dX10_scoreFor_71 : decode cX10_scoreFor 71 = .ok (.iload 5, 2) := by decide +kernel
theorem dX10_scoreFor_73 : decode cX10_scoreFor 73 = .ok (.sipush 1000, 3) := by decide +kernel
theorem dX10_scoreFor_76 : decode cX10_scoreFor 76 = .ok (.if_icmp .gt 19, 3) := by decide +kernel
theorem dX10_scoreFor_79 : decode cX10_scoreFor 79 = .ok (.iload 6, 2) := by decide +kernel
theorem dX10_scoreFor_81 : decode cX10_scoreFor 81 = .ok (.sipush 1000, 3) := by decide +kernel
theorem dX10_scoreFor_84 : decode cX10_scoreFor 84 = .ok (.if_icmp .gt 11, 3) := by decide +kernel
theorem dX10_scoreFor_87 : decode cX10_scoreFor 87 = .ok (.iload 5, 2) := by decide +kernel
theorem dX10_scoreFor_89 : decode cX10_scoreFor 89 = .ok (.iload 6, 2) := by decide +kernel
theorem dX10_scoreFor_91 : decode cX10_scoreFor 91 = .ok (.iadd, 1) := by decide +kernel
theorem dX10_scoreFor_92 : decode cX10_scoreFor 92 = .ok (.goto 5, 3) := by decide +kernel
theorem dX10_scoreFor_95 : decode cX10_scoreFor 95 = .ok (.ldc 180, 2) := by decide +kernel
theorem dX10_scoreFor_97 : decode cX10_scoreFor 97 = .ok (.ireturn, 1) := by decide +kernel
def fn_X10_scoreFor (N : Nat) (M : Mem) (a0 : Nat) (x1 : Int32) (x2 : Int32) (x3 : Int32) : Option (Int32 × Mem) :=
  (mm_gR M a0 10 16).bind fun b1 =>
  (mm_aI M b1 0 0).bind fun v2 =>
  (mm_gR M a0 10 12).bind fun b3 =>
  (mm_aI M b3 0 ((5 * x1) + 1)).bind fun v4 =>
  (mm_gR M a0 10 12).bind fun b5 =>
  (mm_aI M b5 0 (((5 * x1) + 1) + 1)).bind fun v6 =>
  mm_b2 (fn_X10_deviation N M ((x2 + v2)) v4 v6) fun v8 M7 =>
  (mm_gR M7 a0 10 16).bind fun b9 =>
  (mm_aI M7 b9 0 1).bind fun v10 =>
  (mm_gR M7 a0 10 12).bind fun b11 =>
  (mm_aI M7 b11 0 ((5 * x1) + 3)).bind fun v12 =>
  (mm_gR M7 a0 10 12).bind fun b13 =>
  (mm_aI M7 b13 0 (((5 * x1) + 3) + 1)).bind fun v14 =>
  mm_b2 (fn_X10_deviation N M7 ((x3 + v10)) v12 v14) fun v16 M15 =>
  if 1000 < v8 then
    some (1000000, M15)
  else
    if 1000 < v16 then
      some (1000000, M15)
    else
      some ((v8 + v16), M15)
set_option maxRecDepth 100000 in
set_option maxHeartbeats 4000000 in
theorem ct_X10_scoreFor {l : Launch} {ω : Wd} {k N : Nat} {M : Mem} {a0 : Nat} {x1 : Int32} {x2 : Int32} {x3 : Int32} {r : Int32} {M' : Mem} (h : fn_X10_scoreFor N M a0 x1 x2 x3 = some (r, M')) : CM l ω k yX10_scoreFor cX10_scoreFor 7 (some .int) 1 0 0 [.ref a0, .int x1, .int x2, .int x3] M (some (.int r)) M' := by
  refine CM.of (by decide) (Nat.le_of_ble_eq_true rfl) fun Γ hl C hr hi => ?_
  subst hl
  unfold fn_X10_scoreFor at h
  refine jv_iconst (v := 5) C dX10_scoreFor_0 (by decide) ?_
  refine jv_iload_n C dX10_scoreFor_1 rfl 1 rfl ?_
  refine jv_imul C dX10_scoreFor_2 ?_
  refine jv_istore (lv' := [(4, .int (5 * x1)), (0, .ref a0), (1, .int x1), (2, .int x2), (3, .int x3)]) C dX10_scoreFor_3 (by decide) rfl ?_
  refine jv_iload_n C dX10_scoreFor_5 rfl 3 rfl ?_
  refine jv_aload_n C dX10_scoreFor_6 rfl 1 rfl ?_
  refine jv_getR C fa_X10_29 dX10_scoreFor_7 h (fun b1 h => ?_)
  refine jv_iconst (v := 0) C dX10_scoreFor_10 (by decide) ?_
  refine jv_iald C dX10_scoreFor_11 h (fun v2 h => ?_)
  refine jv_iadd C dX10_scoreFor_12 ?_
  refine jv_aload_n C dX10_scoreFor_13 rfl 1 rfl ?_
  refine jv_getR C fa_X10_20 dX10_scoreFor_14 h (fun b3 h => ?_)
  refine jv_iload C dX10_scoreFor_17 0 rfl ?_
  refine jv_iconst (v := 1) C dX10_scoreFor_19 (by decide) ?_
  refine jv_iadd C dX10_scoreFor_20 ?_
  refine jv_iald C dX10_scoreFor_21 h (fun v4 h => ?_)
  refine jv_aload_n C dX10_scoreFor_22 rfl 1 rfl ?_
  refine jv_getR C fa_X10_20 dX10_scoreFor_23 h (fun b5 h => ?_)
  refine jv_iload C dX10_scoreFor_26 0 rfl ?_
  refine jv_iconst (v := 1) C dX10_scoreFor_28 (by decide) ?_
  refine jv_iadd C dX10_scoreFor_29 ?_
  refine jv_iconst (v := 1) C dX10_scoreFor_30 (by decide) ?_
  refine jv_iadd C dX10_scoreFor_31 ?_
  refine jv_iald C dX10_scoreFor_32 h (fun v6 h => ?_)
  refine jv_sI0 (As := [.int (x2 + v2), .int v4, .int v6]) C lk_X10_177 dX10_scoreFor_33 rfl rfl (by decide) (by decide) (by decide) (Nat.le_of_ble_eq_true rfl) h (fun _ _ h => ct_X10_deviation h) (fun v8 M7 h => ?_)
  refine jv_istore (lv' := [(5, .int v8), (4, .int (5 * x1)), (0, .ref a0), (1, .int x1), (2, .int x2), (3, .int x3)]) C dX10_scoreFor_36 (by decide) rfl ?_
  refine jv_iload_n C dX10_scoreFor_38 rfl 5 rfl ?_
  refine jv_aload_n C dX10_scoreFor_39 rfl 2 rfl ?_
  refine jv_getR C fa_X10_29 dX10_scoreFor_40 h (fun b9 h => ?_)
  refine jv_iconst (v := 1) C dX10_scoreFor_43 (by decide) ?_
  refine jv_iald C dX10_scoreFor_44 h (fun v10 h => ?_)
  refine jv_iadd C dX10_scoreFor_45 ?_
  refine jv_aload_n C dX10_scoreFor_46 rfl 2 rfl ?_
  refine jv_getR C fa_X10_20 dX10_scoreFor_47 h (fun b11 h => ?_)
  refine jv_iload C dX10_scoreFor_50 1 rfl ?_
  refine jv_iconst (v := 3) C dX10_scoreFor_52 (by decide) ?_
  refine jv_iadd C dX10_scoreFor_53 ?_
  refine jv_iald C dX10_scoreFor_54 h (fun v12 h => ?_)
  refine jv_aload_n C dX10_scoreFor_55 rfl 2 rfl ?_
  refine jv_getR C fa_X10_20 dX10_scoreFor_56 h (fun b13 h => ?_)
  refine jv_iload C dX10_scoreFor_59 1 rfl ?_
  refine jv_iconst (v := 3) C dX10_scoreFor_61 (by decide) ?_
  refine jv_iadd C dX10_scoreFor_62 ?_
  refine jv_iconst (v := 1) C dX10_scoreFor_63 (by decide) ?_
  refine jv_iadd C dX10_scoreFor_64 ?_
  refine jv_iald C dX10_scoreFor_65 h (fun v14 h => ?_)
  refine jv_sI0 (As := [.int (x3 + v10), .int v12, .int v14]) C lk_X10_177 dX10_scoreFor_66 rfl rfl (by decide) (by decide) (by decide) (Nat.le_of_ble_eq_true rfl) h (fun _ _ h => ct_X10_deviation h) (fun v16 M15 h => ?_)
  refine jv_istore (lv' := [(6, .int v16), (5, .int v8), (4, .int (5 * x1)), (0, .ref a0), (1, .int x1), (2, .int x2), (3, .int x3)]) C dX10_scoreFor_69 (by decide) rfl ?_
  refine jv_iload C dX10_scoreFor_71 1 rfl ?_
  refine jv_sipush (v := 1000) C dX10_scoreFor_73 (by decide) ?_
  refine jv_icmp_gt (tgt := 95) C dX10_scoreFor_76 (by decide) h (fun h => ?_) (fun h => ?_)
  · refine jv_ldc C gw_1563 dX10_scoreFor_95 ?_
    exact jv_iret C hr dX10_scoreFor_97 h
  · refine jv_iload C dX10_scoreFor_79 0 rfl ?_
    refine jv_sipush (v := 1000) C dX10_scoreFor_81 (by decide) ?_
    refine jv_icmp_gt (tgt := 95) C dX10_scoreFor_84 (by decide) h (fun h => ?_) (fun h => ?_)
    · refine jv_ldc C gw_1563 dX10_scoreFor_95 ?_
      exact jv_iret C hr dX10_scoreFor_97 h
    · refine jv_iload C dX10_scoreFor_87 1 rfl ?_
      refine jv_iload C dX10_scoreFor_89 0 rfl ?_
      refine jv_iadd C dX10_scoreFor_91 ?_
      refine jv_goto (tgt := 97) C dX10_scoreFor_92 (by decide) ?_
      exact jv_iret C hr dX10_scoreFor_97 h
theorem dX10_look_0 : decode cX10_look 0 = .ok (.aload_n 0, 1) := by decide +kernel
theorem dX10_look_1 : decode cX10_look 1 = .ok (.bipush (-2), 2) := by decide +kernel
theorem dX10_look_3 : decode cX10_look 3 = .ok (.putfield 181, 3) := by decide +kernel
theorem dX10_look_6 : decode cX10_look 6 = .ok (.aload_n 0, 1) := by decide +kernel
theorem dX10_look_7 : decode cX10_look 7 = .ok (.ldc 180, 2) := by decide +kernel
theorem dX10_look_9 : decode cX10_look 9 = .ok (.putfield 184, 3) := by decide +kernel
theorem dX10_look_12 : decode cX10_look 12 = .ok (.aload_n 0, 1) := by decide +kernel
theorem dX10_look_13 : decode cX10_look 13 = .ok (.ldc 180, 2) := by decide +kernel
theorem dX10_look_15 : decode cX10_look 15 = .ok (.putfield 187, 3) := by decide +kernel
theorem dX10_look_18 : decode cX10_look 18 = .ok (.aload_n 0, 1) := by decide +kernel
theorem dX10_look_19 : decode cX10_look 19 = .ok (.ldc 180, 2) := by decide +kernel
theorem dX10_look_21 : decode cX10_look 21 = .ok (.putfield 190, 3) := by decide +kernel
theorem dX10_look_24 : decode cX10_look 24 = .ok (.iconst 0, 1) := by decide +kernel
theorem dX10_look_25 : decode cX10_look 25 = .ok (.istore_n 3, 1) := by decide +kernel
theorem dX10_look_26 : decode cX10_look 26 = .ok (.iload_n 3, 1) := by decide +kernel
theorem dX10_look_27 : decode cX10_look 27 = .ok (.aload_n 0, 1) := by decide +kernel
theorem dX10_look_28 : decode cX10_look 28 = .ok (.getfield 13, 3) := by decide +kernel
theorem dX10_look_31 : decode cX10_look 31 = .ok (.iconst 0, 1) := by decide +kernel
theorem dX10_look_32 : decode cX10_look 32 = .ok (.iaload, 1) := by decide +kernel
theorem dX10_look_33 : decode cX10_look 33 = .ok (.if_icmp .ge 64, 3) := by decide +kernel
theorem dX10_look_36 : decode cX10_look 36 = .ok (.aload_n 0, 1) := by decide +kernel
theorem dX10_look_37 : decode cX10_look 37 = .ok (.iload_n 3, 1) := by decide +kernel
theorem dX10_look_38 : decode cX10_look 38 = .ok (.iload_n 1, 1) := by decide +kernel
theorem dX10_look_39 : decode cX10_look 39 = .ok (.iload_n 2, 1) := by decide +kernel
theorem dX10_look_40 : decode cX10_look 40 = .ok (.invokevirtual 193, 3) := by decide +kernel
theorem dX10_look_43 : decode cX10_look 43 = .ok (.istore 4, 2) := by decide +kernel
theorem dX10_look_45 : decode cX10_look 45 = .ok (.iload 4, 2) := by decide +kernel
theorem dX10_look_47 : decode cX10_look 47 = .ok (.aload_n 0, 1) := by decide +kernel
theorem dX10_look_48 : decode cX10_look 48 = .ok (.getfield 184, 3) := by decide +kernel
theorem dX10_look_51 : decode cX10_look 51 = .ok (.if_icmp .ge 25, 3) := by decide +kernel
theorem dX10_look_54 : decode cX10_look 54 = .ok (.aload_n 0, 1) := by decide +kernel
theorem dX10_look_55 : decode cX10_look 55 = .ok (.aload_n 0, 1) := by decide +kernel
theorem dX10_look_56 : decode cX10_look 56 = .ok (.getfield 184, 3) := by decide +kernel
theorem dX10_look_59 : decode cX10_look 59 = .ok (.putfield 187, 3) := by decide +kernel
theorem dX10_look_62 : decode cX10_look 62 = .ok (.aload_n 0, 1) := by decide +kernel
theorem dX10_look_63 : decode cX10_look 63 = .ok (.iload 4, 2) := by decide +kernel
theorem dX10_look_65 : decode cX10_look 65 = .ok (.putfield 184, 3) := by decide +kernel
theorem dX10_look_68 : decode cX10_look 68 = .ok (.aload_n 0, 1) := by decide +kernel
theorem dX10_look_69 : decode cX10_look 69 = .ok (.iload_n 3, 1) := by decide +kernel
theorem dX10_look_70 : decode cX10_look 70 = .ok (.putfield 181, 3) := by decide +kernel
theorem dX10_look_73 : decode cX10_look 73 = .ok (.goto 18, 3) := by decide +kernel
theorem dX10_look_76 : decode cX10_look 76 = .ok (.iload 4, 2) := by decide +kernel
theorem dX10_look_78 : decode cX10_look 78 = .ok (.aload_n 0, 1) := by decide +kernel
theorem dX10_look_79 : decode cX10_look 79 = .ok (.getfield 187, 3) := by decide +kernel
theorem dX10_look_82 : decode cX10_look 82 = .ok (.if_icmp .ge 9, 3) := by decide +kernel
theorem dX10_look_85 : decode cX10_look 85 = .ok (.aload_n 0, 1) := by decide +kernel
theorem dX10_look_86 : decode cX10_look 86 = .ok (.iload 4, 2) := by decide +kernel
theorem dX10_look_88 : decode cX10_look 88 = .ok (.putfield 187, 3) := by decide +kernel
theorem dX10_look_91 : decode cX10_look 91 = .ok (.iinc 3 1, 3) := by decide +kernel
theorem dX10_look_94 : decode cX10_look 94 = .ok (.goto (-68), 3) := by decide +kernel
theorem dX10_look_97 : decode cX10_look 97 = .ok (.iconst 0, 1) := by decide +kernel
theorem dX10_look_98 : decode cX10_look 98 = .ok (.istore_n 3, 1) := by decide +kernel
theorem dX10_look_99 : decode cX10_look 99 = .ok (.iload_n 3, 1) := by decide +kernel
theorem dX10_look_100 : decode cX10_look 100 = .ok (.aload_n 0, 1) := by decide +kernel
theorem dX10_look_101 : decode cX10_look 101 = .ok (.getfield 13, 3) := by decide +kernel
theorem dX10_look_104 : decode cX10_look 104 = .ok (.iconst 1, 1) := by decide +kernel
theorem dX10_look_105 : decode cX10_look 105 = .ok (.iaload, 1) := by decide +kernel
theorem dX10_look_106 : decode cX10_look 106 = .ok (.if_icmp .ge 30, 3) := by decide +kernel
theorem dX10_look_109 : decode cX10_look 109 = .ok (.aload_n 0, 1) := by decide +kernel
theorem dX10_look_110 : decode cX10_look 110 = .ok (.aload_n 0, 1) := by decide +kernel
theorem dX10_look_111 : decode cX10_look 111 = .ok (.getfield 190, 3) := by decide +kernel
theorem dX10_look_114 : decode cX10_look 114 = .ok (.aload_n 0, 1) := by decide +kernel
theorem dX10_look_115 : decode cX10_look 115 = .ok (.bipush 8, 2) := by decide +kernel
theorem dX10_look_117 : decode cX10_look 117 = .ok (.iload_n 3, 1) := by decide +kernel
theorem dX10_look_118 : decode cX10_look 118 = .ok (.iadd, 1) := by decide +kernel
theorem dX10_look_119 : decode cX10_look 119 = .ok (.iload_n 1, 1) := by decide +kernel
theorem dX10_look_120 : decode cX10_look 120 = .ok (.iload_n 2, 1) := by decide +kernel
theorem dX10_look_121 : decode cX10_look 121 = .ok (.invokevirtual 193, 3) := by decide +kernel
theorem dX10_look_124 : decode cX10_look 124 = .ok (.invokestatic 196, 3) := by decide +kernel
theorem dX10_look_127 : decode cX10_look 127 = .ok (.putfield 190, 3) := by decide +kernel
theorem dX10_look_130 : decode cX10_look 130 = .ok (.iinc 3 1, 3) := by decide +kernel
theorem dX10_look_133 : decode cX10_look 133 = .ok (.goto (-34), 3) := by decide +kernel
theorem dX10_look_136 : decode cX10_look 136 = .ok (.return_, 1) := by decide +kernel
def fn_X10_look_99 (N : Nat) : Nat → Mem → Nat → Int32 → Int32 → Int32 → Option (Unit × Mem)
  | 0, _, _, _, _, _ => none
  | n + 1, M, a0, x1, x2, x3 =>
    (mm_gR M a0 10 10).bind fun b1 =>
    (mm_aI M b1 0 1).bind fun v2 =>
    if v2 ≤ x3 then
      some ((), M)
    else
      (mm_gI M a0 10 24).bind fun v3 =>
      (mm_ck M a0 10).bind fun _ => mm_b2 (fn_X10_scoreFor N M a0 ((8 + x3)) x1 x2) fun v5 M4 =>
      mm_lt (if v5 < v3 then v5 else v3) fun v6 =>
      (mm_pV M4 a0 10 24 (.int v6)).bind fun M7 =>
      fn_X10_look_99 N n M7 a0 x1 x2 ((x3 + 1))
set_option maxRecDepth 100000 in
set_option maxHeartbeats 4000000 in
theorem bk_X10_look_99 {Γ : Gm} {ω : Wd} {k N : Nat} {r : Unit} {M' : Mem} (C : Cx Γ cX10_look 5 RX10 ω 2 0 0) (hr : Γ.meth.sig.returnType = none) : ∀ (n : Nat) (M : Mem) (a0 : Nat) (x1 : Int32) (x2 : Int32) (x3 : Int32), fn_X10_look_99 N n M a0 x1 x2 x3 = some (r, M') → JJ Γ (QF Γ ω k 0 0 none M') 5 ω k M 0 0 99 [(0, .ref a0), (1, .int x1), (2, .int x2), (3, .int x3)] [] := by
  intro n
  induction n with
  | zero => intro M a0 x1 x2 x3 h; exact jv_no h
  | succ n ih =>
    intro M a0 x1 x2 x3 h
    rw [fn_X10_look_99.eq_2] at h
    refine jv_iload_n C dX10_look_99 rfl 3 rfl ?_
    refine jv_aload_n C dX10_look_100 rfl 0 rfl ?_
    refine jv_getR C fa_X10_13 dX10_look_101 h (fun b1 h => ?_)
    refine jv_iconst (v := 1) C dX10_look_104 (by decide) ?_
    refine jv_iald C dX10_look_105 h (fun v2 h => ?_)
    refine jv_icmp_ge (tgt := 136) C dX10_look_106 (by decide) h (fun h => ?_) (fun h => ?_)
    · exact jv_vret C hr dX10_look_136 h
    · refine jv_aload_n C dX10_look_109 rfl 0 rfl ?_
      refine jv_aload_n C dX10_look_110 rfl 0 rfl ?_
      refine jv_getI C fa_X10_190 dX10_look_111 h (fun v3 h => ?_)
      refine jv_aload_n C dX10_look_114 rfl 0 rfl ?_
      refine jv_bipush (v := 8) C dX10_look_115 (by decide) ?_
      refine jv_iload_n C dX10_look_117 rfl 3 rfl ?_
      refine jv_iadd C dX10_look_118 ?_
      refine jv_iload_n C dX10_look_119 rfl 1 rfl ?_
      refine jv_iload_n C dX10_look_120 rfl 2 rfl ?_
      refine jv_vI0 (As := [.int (8 + x3), .int x1, .int x2]) C lk_X10_193 rfl dX10_look_121 rfl rfl (by decide) (by decide) (by decide) (Nat.le_of_ble_eq_true rfl) h (fun _ _ h => ct_X10_scoreFor h) (fun v5 M4 h => ?_)
      refine jv_mmin C gw_1576 gw_280 gw_98 gw_281 (by decide) (by decide) (Nat.le_of_ble_eq_true rfl) dX10_look_124 ?_
      refine jv_nameI h (fun v6 h => ?_)
      refine jv_putI C fp_X10_190 dX10_look_127 h (fun M7 h => ?_)
      refine jv_iinc (v := 1) (lv' := [(3, .int (x3 + 1)), (0, .ref a0), (1, .int x1), (2, .int x2)]) C dX10_look_130 3 rfl (by decide) (by decide) rfl ?_
      refine jv_goto (tgt := 99) C dX10_look_133 (by decide) ?_
      refine jv_sub [1, 2, 3, 0] rfl ?_
      exact ih _ _ _ _ _ h
def fn_X10_look_91 (N : Nat) (K26 : Mem → Nat → Int32 → Int32 → Int32 → Option (Unit × Mem)) (M : Mem) (a0 : Nat) (x1 : Int32) (x2 : Int32) (x3 : Int32) : Option (Unit × Mem) :=
  K26 M a0 x1 x2 ((x3 + 1))
set_option maxRecDepth 100000 in
set_option maxHeartbeats 4000000 in
theorem bk_X10_look_91 {Γ : Gm} {ω : Wd} {k N : Nat} {r : Unit} {M' : Mem} (C : Cx Γ cX10_look 5 RX10 ω 2 0 0) (hr : Γ.meth.sig.returnType = none) {K26 : Mem → Nat → Int32 → Int32 → Int32 → Option (Unit × Mem)} (hK26 : ∀ (M : Mem) (a0 : Nat) (x1 : Int32) (x2 : Int32) (x3 : Int32), K26 M a0 x1 x2 x3 = some (r, M') → JJ Γ (QF Γ ω k 0 0 none M') 5 ω k M 0 0 26 [(0, .ref a0), (1, .int x1), (2, .int x2), (3, .int x3)] []) (M : Mem) (a0 : Nat) (x1 : Int32) (x2 : Int32) (x3 : Int32) (h : fn_X10_look_91 N K26 M a0 x1 x2 x3 = some (r, M')) : JJ Γ (QF Γ ω k 0 0 none M') 5 ω k M 0 0 91 [(0, .ref a0), (1, .int x1), (2, .int x2), (3, .int x3)] [] := by
  unfold fn_X10_look_91 at h
  refine jv_iinc (v := 1) (lv' := [(3, .int (x3 + 1)), (0, .ref a0), (1, .int x1), (2, .int x2)]) C dX10_look_91 3 rfl (by decide) (by decide) rfl ?_
  refine jv_goto (tgt := 26) C dX10_look_94 (by decide) ?_
  refine jv_sub [1, 2, 3, 0] rfl ?_
  exact hK26 _ _ _ _ _ h
def fn_X10_look_26 (N : Nat) : Nat → Mem → Nat → Int32 → Int32 → Int32 → Option (Unit × Mem)
  | 0, _, _, _, _, _ => none
  | n + 1, M, a0, x1, x2, x3 =>
    (mm_gR M a0 10 10).bind fun b1 =>
    (mm_aI M b1 0 0).bind fun v2 =>
    if v2 ≤ x3 then
      fn_X10_look_99 N N M a0 x1 x2 0
    else
      (mm_ck M a0 10).bind fun _ => mm_b2 (fn_X10_scoreFor N M a0 x3 x1 x2) fun v4 M3 =>
      (mm_gI M3 a0 10 22).bind fun v5 =>
      if v5 ≤ v4 then
        (mm_gI M3 a0 10 23).bind fun v6 =>
        if v6 ≤ v4 then
          fn_X10_look_91 N (fn_X10_look_26 N n) M3 a0 x1 x2 x3
        else
          (mm_pV M3 a0 10 23 (.int v4)).bind fun M7 =>
          fn_X10_look_91 N (fn_X10_look_26 N n) M7 a0 x1 x2 x3
      else
        (mm_gI M3 a0 10 22).bind fun v8 =>
        (mm_pV M3 a0 10 23 (.int v8)).bind fun M9 =>
        (mm_pV M9 a0 10 22 (.int v4)).bind fun M10 =>
        (mm_pV M10 a0 10 21 (.int x3)).bind fun M11 =>
        fn_X10_look_91 N (fn_X10_look_26 N n) M11 a0 x1 x2 x3
set_option maxRecDepth 100000 in
set_option maxHeartbeats 4000000 in
theorem bk_X10_look_26 {Γ : Gm} {ω : Wd} {k N : Nat} {r : Unit} {M' : Mem} (C : Cx Γ cX10_look 5 RX10 ω 2 0 0) (hr : Γ.meth.sig.returnType = none) : ∀ (n : Nat) (M : Mem) (a0 : Nat) (x1 : Int32) (x2 : Int32) (x3 : Int32), fn_X10_look_26 N n M a0 x1 x2 x3 = some (r, M') → JJ Γ (QF Γ ω k 0 0 none M') 5 ω k M 0 0 26 [(0, .ref a0), (1, .int x1), (2, .int x2), (3, .int x3)] [] := by
  intro n
  induction n with
  | zero => intro M a0 x1 x2 x3 h; exact jv_no h
  | succ n ih =>
    intro M a0 x1 x2 x3 h
    rw [fn_X10_look_26.eq_2] at h
    refine jv_iload_n C dX10_look_26 rfl 3 rfl ?_
    refine jv_aload_n C dX10_look_27 rfl 0 rfl ?_
    refine jv_getR C fa_X10_13 dX10_look_28 h (fun b1 h => ?_)
    refine jv_iconst (v := 0) C dX10_look_31 (by decide) ?_
    refine jv_iald C dX10_look_32 h (fun v2 h => ?_)
    refine jv_icmp_ge (tgt := 97) C dX10_look_33 (by decide) h (fun h => ?_) (fun h => ?_)
    · refine jv_iconst (v := 0) C dX10_look_97 (by decide) ?_
      refine jv_istore_n (lv' := [(3, .int 0), (0, .ref a0), (1, .int x1), (2, .int x2)]) C dX10_look_98 rfl (by decide) rfl ?_
      refine jv_sub [1, 2, 3, 0] rfl ?_
      exact bk_X10_look_99 C hr _ _ _ _ _ _ h
    · refine jv_aload_n C dX10_look_36 rfl 0 rfl ?_
      refine jv_iload_n C dX10_look_37 rfl 3 rfl ?_
      refine jv_iload_n C dX10_look_38 rfl 1 rfl ?_
      refine jv_iload_n C dX10_look_39 rfl 2 rfl ?_
      refine jv_vI0 (As := [.int x3, .int x1, .int x2]) C lk_X10_193 rfl dX10_look_40 rfl rfl (by decide) (by decide) (by decide) (Nat.le_of_ble_eq_true rfl) h (fun _ _ h => ct_X10_scoreFor h) (fun v4 M3 h => ?_)
      refine jv_istore (lv' := [(4, .int v4), (0, .ref a0), (1, .int x1), (2, .int x2), (3, .int x3)]) C dX10_look_43 (by decide) rfl ?_
      refine jv_iload C dX10_look_45 0 rfl ?_
      refine jv_aload_n C dX10_look_47 rfl 1 rfl ?_
      refine jv_getI C fa_X10_184 dX10_look_48 h (fun v5 h => ?_)
      refine jv_icmp_ge (tgt := 76) C dX10_look_51 (by decide) h (fun h => ?_) (fun h => ?_)
      · refine jv_iload C dX10_look_76 0 rfl ?_
        refine jv_aload_n C dX10_look_78 rfl 1 rfl ?_
        refine jv_getI C fa_X10_187 dX10_look_79 h (fun v6 h => ?_)
        refine jv_icmp_ge (tgt := 91) C dX10_look_82 (by decide) h (fun h => ?_) (fun h => ?_)
        · refine jv_sub [1, 2, 3, 4] rfl ?_
          exact bk_X10_look_91 C hr ih _ _ _ _ _ h
        · refine jv_aload_n C dX10_look_85 rfl 1 rfl ?_
          refine jv_iload C dX10_look_86 0 rfl ?_
          refine jv_putI C fp_X10_187 dX10_look_88 h (fun M7 h => ?_)
          refine jv_sub [1, 2, 3, 4] rfl ?_
          exact bk_X10_look_91 C hr ih _ _ _ _ _ h
      · refine jv_aload_n C dX10_look_54 rfl 1 rfl ?_
        refine jv_aload_n C dX10_look_55 rfl 1 rfl ?_
        refine jv_getI C fa_X10_184 dX10_look_56 h (fun v8 h => ?_)
        refine jv_putI C fp_X10_187 dX10_look_59 h (fun M9 h => ?_)
        refine jv_aload_n C dX10_look_62 rfl 1 rfl ?_
        refine jv_iload C dX10_look_63 0 rfl ?_
        refine jv_putI C fp_X10_184 dX10_look_65 h (fun M10 h => ?_)
        refine jv_aload_n C dX10_look_68 rfl 1 rfl ?_
        refine jv_iload_n C dX10_look_69 rfl 4 rfl ?_
        refine jv_putI C fp_X10_181 dX10_look_70 h (fun M11 h => ?_)
        refine jv_goto (tgt := 91) C dX10_look_73 (by decide) ?_
        refine jv_sub [1, 2, 3, 4] rfl ?_
        exact bk_X10_look_91 C hr ih _ _ _ _ _ h
def fn_X10_look (N : Nat) (M : Mem) (a0 : Nat) (x1 : Int32) (x2 : Int32) : Option (Unit × Mem) :=
  (mm_pV M a0 10 21 (.int (-2))).bind fun M1 =>
  (mm_pV M1 a0 10 22 (.int 1000000)).bind fun M2 =>
  (mm_pV M2 a0 10 23 (.int 1000000)).bind fun M3 =>
  (mm_pV M3 a0 10 24 (.int 1000000)).bind fun M4 =>
  fn_X10_look_26 N N M4 a0 x1 x2 0
set_option maxRecDepth 100000 in
set_option maxHeartbeats 4000000 in
theorem ct_X10_look {l : Launch} {ω : Wd} {k N : Nat} {M : Mem} {a0 : Nat} {x1 : Int32} {x2 : Int32} {r : Unit} {M' : Mem} (h : fn_X10_look N M a0 x1 x2 = some (r, M')) : CM l ω k yX10_look cX10_look 5 none 2 0 0 [.ref a0, .int x1, .int x2] M none M' := by
  refine CM.of (by decide) (Nat.le_of_ble_eq_true rfl) fun Γ hl C hr hi => ?_
  subst hl
  unfold fn_X10_look at h
  refine jv_aload_n C dX10_look_0 rfl 0 rfl ?_
  refine jv_bipush (v := (-2)) C dX10_look_1 (by decide) ?_
  refine jv_putI C fp_X10_181 dX10_look_3 h (fun M1 h => ?_)
  refine jv_aload_n C dX10_look_6 rfl 0 rfl ?_
  refine jv_ldc C gw_1563 dX10_look_7 ?_
  refine jv_putI C fp_X10_184 dX10_look_9 h (fun M2 h => ?_)
  refine jv_aload_n C dX10_look_12 rfl 0 rfl ?_
  refine jv_ldc C gw_1563 dX10_look_13 ?_
  refine jv_putI C fp_X10_187 dX10_look_15 h (fun M3 h => ?_)
  refine jv_aload_n C dX10_look_18 rfl 0 rfl ?_
  refine jv_ldc C gw_1563 dX10_look_19 ?_
  refine jv_putI C fp_X10_190 dX10_look_21 h (fun M4 h => ?_)
  refine jv_iconst (v := 0) C dX10_look_24 (by decide) ?_
  refine jv_istore_n (lv' := [(3, .int 0), (0, .ref a0), (1, .int x1), (2, .int x2)]) C dX10_look_25 rfl (by decide) rfl ?_
  refine jv_sub [1, 2, 3, 0] rfl ?_
  exact bk_X10_look_26 C hr _ _ _ _ _ _ h
theorem dX10_verdict_0 : decode cX10_verdict 0 = .ok (.aload_n 0, 1) := by decide +kernel
theorem dX10_verdict_1 : decode cX10_verdict 1 = .ok (.iload_n 1, 1) := by decide +kernel
theorem dX10_verdict_2 : decode cX10_verdict 2 = .ok (.iload_n 2, 1) := by decide +kernel
theorem dX10_verdict_3 : decode cX10_verdict 3 = .ok (.invokevirtual 201, 3) := by decide +kernel
theorem dX10_verdict_6 : decode cX10_verdict 6 = .ok (.aload_n 0, 1) := by decide +kernel
theorem dX10_verdict_7 : decode cX10_verdict 7 = .ok (.getfield 190, 3) := by decide +kernel
theorem dX10_verdict_10 : decode cX10_verdict 10 = .ok (.ldc 180, 2) := by decide +kernel
theorem dX10_verdict_12 : decode cX10_verdict 12 = .ok (.if_icmp .ge 17, 3) := by decide +kernel
theorem dX10_verdict_15 : decode cX10_verdict 15 = .ok (.aload_n 0, 1) := by decide +kernel
theorem dX10_verdict_16 : decode cX10_verdict 16 = .ok (.getfield 184, 3) := by decide +kernel
theorem dX10_verdict_19 : decode cX10_verdict 19 = .ok (.aload_n 0, 1) := by decide +kernel
theorem dX10_verdict_20 : decode cX10_verdict 20 = .ok (.getfield 190, 3) := by decide +kernel
theorem dX10_verdict_23 : decode cX10_verdict 23 = .ok (.if_icmp .lt 6, 3) := by decide +kernel
theorem dX10_verdict_26 : decode cX10_verdict 26 = .ok (.bipush 22, 2) := by decide +kernel
theorem dX10_verdict_28 : decode cX10_verdict 28 = .ok (.ireturn, 1) := by decide +kernel
theorem dX10_verdict_29 : decode cX10_verdict 29 = .ok (.aload_n 0, 1) := by decide +kernel
theorem dX10_verdict_30 : decode cX10_verdict 30 = .ok (.getfield 184, 3) := by decide +kernel
theorem dX10_verdict_33 : decode cX10_verdict 33 = .ok (.ldc 180, 2) := by decide +kernel
theorem dX10_verdict_35 : decode cX10_verdict 35 = .ok (.if_icmp .ne 6, 3) := by decide +kernel
theorem dX10_verdict_38 : decode cX10_verdict 38 = .ok (.bipush 23, 2) := by decide +kernel
theorem dX10_verdict_40 : decode cX10_verdict 40 = .ok (.ireturn, 1) := by decide +kernel
theorem dX10_verdict_41 : decode cX10_verdict 41 = .ok (.aload_n 0, 1) := by decide +kernel
theorem dX10_verdict_42 : decode cX10_verdict 42 = .ok (.getfield 187, 3) := by decide +kernel
theorem dX10_verdict_45 : decode cX10_verdict 45 = .ok (.ldc 180, 2) := by decide +kernel
theorem dX10_verdict_47 : decode cX10_verdict 47 = .ok (.if_icmp .ge 21, 3) := by decide +kernel
theorem dX10_verdict_50 : decode cX10_verdict 50 = .ok (.aload_n 0, 1) := by decide +kernel
theorem dX10_verdict_51 : decode cX10_verdict 51 = .ok (.getfield 187, 3) := by decide +kernel
theorem dX10_verdict_54 : decode cX10_verdict 54 = .ok (.aload_n 0, 1) := by decide +kernel
theorem dX10_verdict_55 : decode cX10_verdict 55 = .ok (.getfield 184, 3) := by decide +kernel
theorem dX10_verdict_58 : decode cX10_verdict 58 = .ok (.isub, 1) := by decide +kernel
theorem dX10_verdict_59 : decode cX10_verdict 59 = .ok (.iload_n 3, 1) := by decide +kernel
theorem dX10_verdict_60 : decode cX10_verdict 60 = .ok (.if_icmp .ge 8, 3) := by decide +kernel
theorem dX10_verdict_63 : decode cX10_verdict 63 = .ok (.bipush 21, 2) := by decide +kernel
theorem dX10_verdict_65 : decode cX10_verdict 65 = .ok (.goto 7, 3) := by decide +kernel
theorem dX10_verdict_68 : decode cX10_verdict 68 = .ok (.aload_n 0, 1) := by decide +kernel
theorem dX10_verdict_69 : decode cX10_verdict 69 = .ok (.getfield 181, 3) := by decide +kernel
theorem dX10_verdict_72 : decode cX10_verdict 72 = .ok (.ireturn, 1) := by decide +kernel
def fn_X10_verdict_29 (N : Nat) (M : Mem) (a0 : Nat) (x3 : Int32) : Option (Int32 × Mem) :=
  (mm_gI M a0 10 22).bind fun v1 =>
  if v1 = 1000000 then
    some (23, M)
  else
    (mm_gI M a0 10 23).bind fun v2 =>
    if 1000000 ≤ v2 then
      (mm_gI M a0 10 21).bind fun v3 =>
      some (v3, M)
    else
      (mm_gI M a0 10 23).bind fun v4 =>
      (mm_gI M a0 10 22).bind fun v5 =>
      if x3 ≤ (v4 - v5) then
        (mm_gI M a0 10 21).bind fun v6 =>
        some (v6, M)
      else
        some (21, M)
set_option maxRecDepth 100000 in
set_option maxHeartbeats 4000000 in
theorem bk_X10_verdict_29 {Γ : Gm} {ω : Wd} {k N : Nat} {r : Int32} {M' : Mem} (C : Cx Γ cX10_verdict 4 RX10 ω 3 0 0) (hr : Γ.meth.sig.returnType = (some .int)) (M : Mem) (a0 : Nat) (x3 : Int32) (h : fn_X10_verdict_29 N M a0 x3 = some (r, M')) : JJ Γ (QF Γ ω k 0 0 (some (.int r)) M') 4 ω k M 0 0 29 [(0, .ref a0), (3, .int x3)] [] := by
  unfold fn_X10_verdict_29 at h
  refine jv_aload_n C dX10_verdict_29 rfl 0 rfl ?_
  refine jv_getI C fa_X10_184 dX10_verdict_30 h (fun v1 h => ?_)
  refine jv_ldc C gw_1563 dX10_verdict_33 ?_
  refine jv_icmp_ne (tgt := 41) C dX10_verdict_35 (by decide) h (fun h => ?_) (fun h => ?_)
  · refine jv_aload_n C dX10_verdict_41 rfl 0 rfl ?_
    refine jv_getI C fa_X10_187 dX10_verdict_42 h (fun v2 h => ?_)
    refine jv_ldc C gw_1563 dX10_verdict_45 ?_
    refine jv_icmp_ge (tgt := 68) C dX10_verdict_47 (by decide) h (fun h => ?_) (fun h => ?_)
    · refine jv_aload_n C dX10_verdict_68 rfl 0 rfl ?_
      refine jv_getI C fa_X10_181 dX10_verdict_69 h (fun v3 h => ?_)
      exact jv_iret C hr dX10_verdict_72 h
    · refine jv_aload_n C dX10_verdict_50 rfl 0 rfl ?_
      refine jv_getI C fa_X10_187 dX10_verdict_51 h (fun v4 h => ?_)
      refine jv_aload_n C dX10_verdict_54 rfl 0 rfl ?_
      refine jv_getI C fa_X10_184 dX10_verdict_55 h (fun v5 h => ?_)
      refine jv_isub C dX10_verdict_58 ?_
      refine jv_iload_n C dX10_verdict_59 rfl 1 rfl ?_
      refine jv_icmp_ge (tgt := 68) C dX10_verdict_60 (by decide) h (fun h => ?_) (fun h => ?_)
      · refine jv_aload_n C dX10_verdict_68 rfl 0 rfl ?_
        refine jv_getI C fa_X10_181 dX10_verdict_69 h (fun v6 h => ?_)
        exact jv_iret C hr dX10_verdict_72 h
      · refine jv_bipush (v := 21) C dX10_verdict_63 (by decide) ?_
        refine jv_goto (tgt := 72) C dX10_verdict_65 (by decide) ?_
        exact jv_iret C hr dX10_verdict_72 h
  · refine jv_bipush (v := 23) C dX10_verdict_38 (by decide) ?_
    exact jv_iret C hr dX10_verdict_40 h
def fn_X10_verdict (N : Nat) (M : Mem) (a0 : Nat) (x1 : Int32) (x2 : Int32) (x3 : Int32) : Option (Int32 × Mem) :=
  (mm_ck M a0 10).bind fun _ => mm_b2 (fn_X10_look N M a0 x1 x2) fun _ M1 =>
  (mm_gI M1 a0 10 24).bind fun v2 =>
  if 1000000 ≤ v2 then
    fn_X10_verdict_29 N M1 a0 x3
  else
    (mm_gI M1 a0 10 22).bind fun v3 =>
    (mm_gI M1 a0 10 24).bind fun v4 =>
    if v3 < v4 then
      fn_X10_verdict_29 N M1 a0 x3
    else
      some (22, M1)
set_option maxRecDepth 100000 in
set_option maxHeartbeats 4000000 in
theorem ct_X10_verdict {l : Launch} {ω : Wd} {k N : Nat} {M : Mem} {a0 : Nat} {x1 : Int32} {x2 : Int32} {x3 : Int32} {r : Int32} {M' : Mem} (h : fn_X10_verdict N M a0 x1 x2 x3 = some (r, M')) : CM l ω k yX10_verdict cX10_verdict 4 (some .int) 3 0 0 [.ref a0, .int x1, .int x2, .int x3] M (some (.int r)) M' := by
  refine CM.of (by decide) (Nat.le_of_ble_eq_true rfl) fun Γ hl C hr hi => ?_
  subst hl
  unfold fn_X10_verdict at h
  refine jv_aload_n C dX10_verdict_0 rfl 0 rfl ?_
  refine jv_iload_n C dX10_verdict_1 rfl 1 rfl ?_
  refine jv_iload_n C dX10_verdict_2 rfl 2 rfl ?_
  refine jv_vV0 (As := [.int x1, .int x2]) C lk_X10_201 rfl dX10_verdict_3 rfl rfl (by decide) (by decide) (by decide) (Nat.le_of_ble_eq_true rfl) h (fun _ _ h => ct_X10_look h) (fun _ M1 h => ?_)
  refine jv_aload_n C dX10_verdict_6 rfl 0 rfl ?_
  refine jv_getI C fa_X10_190 dX10_verdict_7 h (fun v2 h => ?_)
  refine jv_ldc C gw_1563 dX10_verdict_10 ?_
  refine jv_icmp_ge (tgt := 29) C dX10_verdict_12 (by decide) h (fun h => ?_) (fun h => ?_)
  · refine jv_sub [0, 3] rfl ?_
    exact bk_X10_verdict_29 C hr _ _ _ h
  · refine jv_aload_n C dX10_verdict_15 rfl 0 rfl ?_
    refine jv_getI C fa_X10_184 dX10_verdict_16 h (fun v3 h => ?_)
    refine jv_aload_n C dX10_verdict_19 rfl 0 rfl ?_
    refine jv_getI C fa_X10_190 dX10_verdict_20 h (fun v4 h => ?_)
    refine jv_icmp_lt (tgt := 29) C dX10_verdict_23 (by decide) h (fun h => ?_) (fun h => ?_)
    · refine jv_sub [0, 3] rfl ?_
      exact bk_X10_verdict_29 C hr _ _ _ h
    · refine jv_bipush (v := 22) C dX10_verdict_26 (by decide) ?_
      exact jv_iret C hr dX10_verdict_28 h
theorem dX10_sampleVerdict_0 : decode cX10_sampleVerdict 0 = .ok (.aload_n 0, 1) := by decide +kernel
theorem dX10_sampleVerdict_1 : decode cX10_sampleVerdict 1 = .ok (.aload_n 0, 1) := by decide +kernel
theorem dX10_sampleVerdict_2 : decode cX10_sampleVerdict 2 = .ok (.getfield 29, 3) := by decide +kernel
theorem dX10_sampleVerdict_5 : decode cX10_sampleVerdict 5 = .ok (.sipush 292, 3) := by decide +kernel
theorem dX10_sampleVerdict_8 : decode cX10_sampleVerdict 8 = .ok (.iconst 3, 1) := by decide +kernel
theorem dX10_sampleVerdict_9 : decode cX10_sampleVerdict 9 = .ok (.iload_n 1, 1) := by decide +kernel
theorem dX10_sampleVerdict_10 : decode cX10_sampleVerdict 10 = .ok (.imul, 1) := by decide +kernel
theorem dX10_sampleVerdict_11 : decode cX10_sampleVerdict 11 = .ok (.iadd, 1) := by decide +kernel
theorem dX10_sampleVerdict_12 : decode cX10_sampleVerdict 12 = .ok (.iaload, 1) := by decide +kernel
theorem dX10_sampleVerdict_13 : decode cX10_sampleVerdict 13 = .ok (.aload_n 0, 1) := by decide +kernel
theorem dX10_sampleVerdict_14 : decode cX10_sampleVerdict 14 = .ok (.getfield 29, 3) := by decide +kernel
theorem dX10_sampleVerdict_17 : decode cX10_sampleVerdict 17 = .ok (.sipush 292, 3) := by decide +kernel
theorem dX10_sampleVerdict_20 : decode cX10_sampleVerdict 20 = .ok (.iconst 3, 1) := by decide +kernel
theorem dX10_sampleVerdict_21 : decode cX10_sampleVerdict 21 = .ok (.iload_n 1, 1) := by decide +kernel
theorem dX10_sampleVerdict_22 : decode cX10_sampleVerdict 22 = .ok (.imul, 1) := by decide +kernel
theorem dX10_sampleVerdict_23 : decode cX10_sampleVerdict 23 = .ok (.iadd, 1) := by decide +kernel
theorem dX10_sampleVerdict_24 : decode cX10_sampleVerdict 24 = .ok (.iconst 1, 1) := by decide +kernel
theorem dX10_sampleVerdict_25 : decode cX10_sampleVerdict 25 = .ok (.iadd, 1) := by decide +kernel
theorem dX10_sampleVerdict_26 : decode cX10_sampleVerdict 26 = .ok (.iaload, 1) := by decide +kernel
theorem dX10_sampleVerdict_27 : decode cX10_sampleVerdict 27 = .ok (.iload_n 2, 1) := by decide +kernel
theorem dX10_sampleVerdict_28 : decode cX10_sampleVerdict 28 = .ok (.invokevirtual 212, 3) := by decide +kernel
theorem dX10_sampleVerdict_31 : decode cX10_sampleVerdict 31 = .ok (.ireturn, 1) := by decide +kernel
def fn_X10_sampleVerdict (N : Nat) (M : Mem) (a0 : Nat) (x1 : Int32) (x2 : Int32) : Option (Int32 × Mem) :=
  (mm_gR M a0 10 16).bind fun b1 =>
  (mm_aI M b1 0 (292 + (3 * x1))).bind fun v2 =>
  (mm_gR M a0 10 16).bind fun b3 =>
  (mm_aI M b3 0 ((292 + (3 * x1)) + 1)).bind fun v4 =>
  (mm_ck M a0 10).bind fun _ => mm_b2 (fn_X10_verdict N M a0 v2 v4 x2) fun v6 M5 =>
  some (v6, M5)
set_option maxRecDepth 100000 in
set_option maxHeartbeats 4000000 in
theorem ct_X10_sampleVerdict {l : Launch} {ω : Wd} {k N : Nat} {M : Mem} {a0 : Nat} {x1 : Int32} {x2 : Int32} {r : Int32} {M' : Mem} (h : fn_X10_sampleVerdict N M a0 x1 x2 = some (r, M')) : CM l ω k yX10_sampleVerdict cX10_sampleVerdict 3 (some .int) 4 0 0 [.ref a0, .int x1, .int x2] M (some (.int r)) M' := by
  refine CM.of (by decide) (Nat.le_of_ble_eq_true rfl) fun Γ hl C hr hi => ?_
  subst hl
  unfold fn_X10_sampleVerdict at h
  refine jv_aload_n C dX10_sampleVerdict_0 rfl 0 rfl ?_
  refine jv_aload_n C dX10_sampleVerdict_1 rfl 0 rfl ?_
  refine jv_getR C fa_X10_29 dX10_sampleVerdict_2 h (fun b1 h => ?_)
  refine jv_sipush (v := 292) C dX10_sampleVerdict_5 (by decide) ?_
  refine jv_iconst (v := 3) C dX10_sampleVerdict_8 (by decide) ?_
  refine jv_iload_n C dX10_sampleVerdict_9 rfl 1 rfl ?_
  refine jv_imul C dX10_sampleVerdict_10 ?_
  refine jv_iadd C dX10_sampleVerdict_11 ?_
  refine jv_iald C dX10_sampleVerdict_12 h (fun v2 h => ?_)
  refine jv_aload_n C dX10_sampleVerdict_13 rfl 0 rfl ?_
  refine jv_getR C fa_X10_29 dX10_sampleVerdict_14 h (fun b3 h => ?_)
  refine jv_sipush (v := 292) C dX10_sampleVerdict_17 (by decide) ?_
  refine jv_iconst (v := 3) C dX10_sampleVerdict_20 (by decide) ?_
  refine jv_iload_n C dX10_sampleVerdict_21 rfl 1 rfl ?_
  refine jv_imul C dX10_sampleVerdict_22 ?_
  refine jv_iadd C dX10_sampleVerdict_23 ?_
  refine jv_iconst (v := 1) C dX10_sampleVerdict_24 (by decide) ?_
  refine jv_iadd C dX10_sampleVerdict_25 ?_
  refine jv_iald C dX10_sampleVerdict_26 h (fun v4 h => ?_)
  refine jv_iload_n C dX10_sampleVerdict_27 rfl 2 rfl ?_
  refine jv_vI0 (As := [.int v2, .int v4, .int x2]) C lk_X10_212 rfl dX10_sampleVerdict_28 rfl rfl (by decide) (by decide) (by decide) (Nat.le_of_ble_eq_true rfl) h (fun _ _ h => ct_X10_verdict h) (fun v6 M5 h => ?_)
  exact jv_iret C hr dX10_sampleVerdict_31 h
theorem dX10_costOf_0 : decode cX10_costOf 0 = .ok (.iload_n 1, 1) := by decide +kernel
theorem dX10_costOf_1 : decode cX10_costOf 1 = .ok (.ifCond .ge 16, 3) := by decide +kernel
theorem dX10_costOf_4 : decode cX10_costOf 4 = .ok (.iload_n 0, 1) := by decide +kernel
theorem dX10_costOf_5 : decode cX10_costOf 5 = .ok (.bipush 20, 2) := by decide +kernel
theorem dX10_costOf_7 : decode cX10_costOf 7 = .ok (.if_icmp .ge 8, 3) := by decide +kernel
theorem dX10_costOf_10 : decode cX10_costOf 10 = .ok (.bipush 10, 2) := by decide +kernel
theorem dX10_costOf_12 : decode cX10_costOf 12 = .ok (.goto 4, 3) := by decide +kernel
theorem dX10_costOf_15 : decode cX10_costOf 15 = .ok (.iconst 0, 1) := by decide +kernel
theorem dX10_costOf_16 : decode cX10_costOf 16 = .ok (.ireturn, 1) := by decide +kernel
theorem dX10_costOf_17 : decode cX10_costOf 17 = .ok (.iload_n 0, 1) := by decide +kernel
theorem dX10_costOf_18 : decode cX10_costOf 18 = .ok (.iload_n 1, 1) := by decide +kernel
theorem dX10_costOf_19 : decode cX10_costOf 19 = .ok (.if_icmp .ne 7, 3) := by decide +kernel
theorem dX10_costOf_22 : decode cX10_costOf 22 = .ok (.iconst 0, 1) := by decide +kernel
theorem dX10_costOf_23 : decode cX10_costOf 23 = .ok (.goto 14, 3) := by decide +kernel
theorem dX10_costOf_26 : decode cX10_costOf 26 = .ok (.iload_n 0, 1) := by decide +kernel
theorem dX10_costOf_27 : decode cX10_costOf 27 = .ok (.bipush 20, 2) := by decide +kernel
theorem dX10_costOf_29 : decode cX10_costOf 29 = .ok (.if_icmp .ge 7, 3) := by decide +kernel
theorem dX10_costOf_32 : decode cX10_costOf 32 = .ok (.iconst 5, 1) := by decide +kernel
theorem dX10_costOf_33 : decode cX10_costOf 33 = .ok (.goto 4, 3) := by decide +kernel
theorem dX10_costOf_36 : decode cX10_costOf 36 = .ok (.iconst 1, 1) := by decide +kernel
theorem dX10_costOf_37 : decode cX10_costOf 37 = .ok (.ireturn, 1) := by decide +kernel
def fn_X10_costOf (N : Nat) (M : Mem) (x0 : Int32) (x1 : Int32) : Option (Int32 × Mem) :=
  if 0 ≤ x1 then
    if x0 = x1 then
      some (0, M)
    else
      if 20 ≤ x0 then
        some (1, M)
      else
        some (5, M)
  else
    if 20 ≤ x0 then
      some (0, M)
    else
      some (10, M)
set_option maxRecDepth 100000 in
set_option maxHeartbeats 4000000 in
theorem ct_X10_costOf {l : Launch} {ω : Wd} {k N : Nat} {M : Mem} {x0 : Int32} {x1 : Int32} {r : Int32} {M' : Mem} (h : fn_X10_costOf N M x0 x1 = some (r, M')) : CM l ω k yX10_costOf cX10_costOf 2 (some .int) 0 0 0 [.int x0, .int x1] M (some (.int r)) M' := by
  refine CM.of (by decide) (Nat.le_of_ble_eq_true rfl) fun Γ hl C hr hi => ?_
  subst hl
  unfold fn_X10_costOf at h
  refine jv_iload_n C dX10_costOf_0 rfl 1 rfl ?_
  refine jv_if_ge (tgt := 17) C dX10_costOf_1 (by decide) h (fun h => ?_) (fun h => ?_)
  · refine jv_iload_n C dX10_costOf_17 rfl 0 rfl ?_
    refine jv_iload_n C dX10_costOf_18 rfl 1 rfl ?_
    refine jv_icmp_ne (tgt := 26) C dX10_costOf_19 (by decide) h (fun h => ?_) (fun h => ?_)
    · refine jv_iload_n C dX10_costOf_26 rfl 0 rfl ?_
      refine jv_bipush (v := 20) C dX10_costOf_27 (by decide) ?_
      refine jv_icmp_ge (tgt := 36) C dX10_costOf_29 (by decide) h (fun h => ?_) (fun h => ?_)
      · refine jv_iconst (v := 1) C dX10_costOf_36 (by decide) ?_
        exact jv_iret C hr dX10_costOf_37 h
      · refine jv_iconst (v := 5) C dX10_costOf_32 (by decide) ?_
        refine jv_goto (tgt := 37) C dX10_costOf_33 (by decide) ?_
        exact jv_iret C hr dX10_costOf_37 h
    · refine jv_iconst (v := 0) C dX10_costOf_22 (by decide) ?_
      refine jv_goto (tgt := 37) C dX10_costOf_23 (by decide) ?_
      exact jv_iret C hr dX10_costOf_37 h
  · refine jv_iload_n C dX10_costOf_4 rfl 0 rfl ?_
    refine jv_bipush (v := 20) C dX10_costOf_5 (by decide) ?_
    refine jv_icmp_ge (tgt := 15) C dX10_costOf_7 (by decide) h (fun h => ?_) (fun h => ?_)
    · refine jv_iconst (v := 0) C dX10_costOf_15 (by decide) ?_
      exact jv_iret C hr dX10_costOf_16 h
    · refine jv_bipush (v := 10) C dX10_costOf_10 (by decide) ?_
      refine jv_goto (tgt := 16) C dX10_costOf_12 (by decide) ?_
      exact jv_iret C hr dX10_costOf_16 h
