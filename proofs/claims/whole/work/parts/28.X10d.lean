theorem dX10_insert_0 : decode cX10_insert 0 = .ok (.aload_n 0, 1) := by decide +kernel
theorem dX10_insert_1 : decode cX10_insert 1 = .ok (.iconst 0, 1) := by decide +kernel
theorem dX10_insert_2 : decode cX10_insert 2 = .ok (.putfield 58, 3) := by decide +kernel
theorem dX10_insert_5 : decode cX10_insert 5 = .ok (.iload_n 1, 1) := by decide +kernel
theorem dX10_insert_6 : decode cX10_insert 6 = .ok (.iload_n 2, 1) := by decide +kernel
theorem dX10_insert_7 : decode cX10_insert 7 = .ok (.invokestatic 208, 3) := by decide +kernel
theorem dX10_insert_10 : decode cX10_insert 10 = .ok (.ifCond .ne 5, 3) := by decide +kernel
theorem dX10_insert_13 : decode cX10_insert 13 = .ok (.iconst (-1), 1) := by decide +kernel
theorem dX10_insert_14 : decode cX10_insert 14 = .ok (.ireturn, 1) := by decide +kernel
theorem dX10_insert_15 : decode cX10_insert 15 = .ok (.aload_n 0, 1) := by decide +kernel
theorem dX10_insert_16 : decode cX10_insert 16 = .ok (.getfield 29, 3) := by decide +kernel
theorem dX10_insert_19 : decode cX10_insert 19 = .ok (.iconst 3, 1) := by decide +kernel
theorem dX10_insert_20 : decode cX10_insert 20 = .ok (.iaload, 1) := by decide +kernel
theorem dX10_insert_21 : decode cX10_insert 21 = .ok (.bipush 60, 2) := by decide +kernel
theorem dX10_insert_23 : decode cX10_insert 23 = .ok (.if_icmp .ne 6, 3) := by decide +kernel
theorem dX10_insert_26 : decode cX10_insert 26 = .ok (.bipush (-3), 2) := by decide +kernel
theorem dX10_insert_28 : decode cX10_insert 28 = .ok (.ireturn, 1) := by decide +kernel
theorem dX10_insert_29 : decode cX10_insert 29 = .ok (.aload_n 0, 1) := by decide +kernel
theorem dX10_insert_30 : decode cX10_insert 30 = .ok (.invokevirtual 271, 3) := by decide +kernel
theorem dX10_insert_33 : decode cX10_insert 33 = .ok (.aload_n 0, 1) := by decide +kernel
theorem dX10_insert_34 : decode cX10_insert 34 = .ok (.getfield 29, 3) := by decide +kernel
theorem dX10_insert_37 : decode cX10_insert 37 = .ok (.bipush 82, 2) := by decide +kernel
theorem dX10_insert_39 : decode cX10_insert 39 = .ok (.iconst 2, 1) := by decide +kernel
theorem dX10_insert_40 : decode cX10_insert 40 = .ok (.aload_n 0, 1) := by decide +kernel
theorem dX10_insert_41 : decode cX10_insert 41 = .ok (.getfield 29, 3) := by decide +kernel
theorem dX10_insert_44 : decode cX10_insert 44 = .ok (.iconst 3, 1) := by decide +kernel
theorem dX10_insert_45 : decode cX10_insert 45 = .ok (.iaload, 1) := by decide +kernel
theorem dX10_insert_46 : decode cX10_insert 46 = .ok (.imul, 1) := by decide +kernel
theorem dX10_insert_47 : decode cX10_insert 47 = .ok (.iadd, 1) := by decide +kernel
theorem dX10_insert_48 : decode cX10_insert 48 = .ok (.iload_n 1, 1) := by decide +kernel
theorem dX10_insert_49 : decode cX10_insert 49 = .ok (.iastore, 1) := by decide +kernel
theorem dX10_insert_50 : decode cX10_insert 50 = .ok (.aload_n 0, 1) := by decide +kernel
theorem dX10_insert_51 : decode cX10_insert 51 = .ok (.getfield 29, 3) := by decide +kernel
theorem dX10_insert_54 : decode cX10_insert 54 = .ok (.bipush 82, 2) := by decide +kernel
theorem dX10_insert_56 : decode cX10_insert 56 = .ok (.iconst 2, 1) := by decide +kernel
theorem dX10_insert_57 : decode cX10_insert 57 = .ok (.aload_n 0, 1) := by decide +kernel
theorem dX10_insert_58 : decode cX10_insert 58 = .ok (.getfield 29, 3) := by decide +kernel
theorem dX10_insert_61 : decode cX10_insert 61 = .ok (.iconst 3, 1) := by decide +kernel
theorem dX10_insert_62 : decode cX10_insert 62 = .ok (.iaload, 1) := by decide +kernel
theorem dX10_insert_63 : decode cX10_insert 63 = .ok (.imul, 1) := by decide +kernel
theorem dX10_insert_64 : decode cX10_insert 64 = .ok (.iadd, 1) := by decide +kernel
theorem dX10_insert_65 : decode cX10_insert 65 = .ok (.iconst 1, 1) := by decide +kernel
theorem dX10_insert_66 : decode cX10_insert 66 = .ok (.iadd, 1) := by decide +kernel
theorem dX10_insert_67 : decode cX10_insert 67 = .ok (.iload_n 2, 1) := by decide +kernel
theorem dX10_insert_68 : decode cX10_insert 68 = .ok (.iastore, 1) := by decide +kernel
theorem dX10_insert_69 : decode cX10_insert 69 = .ok (.aload_n 0, 1) := by decide +kernel
theorem dX10_insert_70 : decode cX10_insert 70 = .ok (.getfield 29, 3) := by decide +kernel
theorem dX10_insert_73 : decode cX10_insert 73 = .ok (.iconst 3, 1) := by decide +kernel
theorem dX10_insert_74 : decode cX10_insert 74 = .ok (.dup2, 1) := by decide +kernel
theorem dX10_insert_75 : decode cX10_insert 75 = .ok (.iaload, 1) := by decide +kernel
theorem dX10_insert_76 : decode cX10_insert 76 = .ok (.iconst 1, 1) := by decide +kernel
theorem dX10_insert_77 : decode cX10_insert 77 = .ok (.iadd, 1) := by decide +kernel
theorem dX10_insert_78 : decode cX10_insert 78 = .ok (.iastore, 1) := by decide +kernel
theorem dX10_insert_79 : decode cX10_insert 79 = .ok (.aload_n 0, 1) := by decide +kernel
theorem dX10_insert_80 : decode cX10_insert 80 = .ok (.getfield 29, 3) := by decide +kernel
theorem dX10_insert_83 : decode cX10_insert 83 = .ok (.iconst 3, 1) := by decide +kernel
theorem dX10_insert_84 : decode cX10_insert 84 = .ok (.iaload, 1) := by decide +kernel
theorem dX10_insert_85 : decode cX10_insert 85 = .ok (.ireturn, 1) := by decide +kernel
def fn_X10_insert (N : Nat) (M : Mem) (a0 : Nat) (x1 : Int32) (x2 : Int32) : Option (Int32 × Mem) :=
  (mm_pV M a0 10 0 (.int 0)).bind fun M1 =>
  mm_b2 (fn_X10_isCoin N M1 x1 x2) fun v3 M2 =>
  if v3 = 0 then
    some ((-1), M2)
  else
    (mm_gR M2 a0 10 16).bind fun b4 =>
    (mm_aI M2 b4 0 3).bind fun v5 =>
    if v5 = 60 then
      some ((-3), M2)
    else
      (mm_ck M2 a0 10).bind fun _ => mm_b2 (fn_X10_keep N M2 a0) fun _ M6 =>
      (mm_gR M6 a0 10 16).bind fun b7 =>
      (mm_gR M6 a0 10 16).bind fun b8 =>
      (mm_aI M6 b8 0 3).bind fun v9 =>
      (mm_sI M6 b7 0 (82 + (2 * v9)) x1).bind fun M10 =>
      (mm_gR M10 a0 10 16).bind fun b11 =>
      (mm_gR M10 a0 10 16).bind fun b12 =>
      (mm_aI M10 b12 0 3).bind fun v13 =>
      (mm_sI M10 b11 0 ((82 + (2 * v13)) + 1) x2).bind fun M14 =>
      (mm_gR M14 a0 10 16).bind fun b15 =>
      (mm_aI M14 b15 0 3).bind fun v16 =>
      (mm_sI M14 b15 0 3 (v16 + 1)).bind fun M17 =>
      (mm_gR M17 a0 10 16).bind fun b18 =>
      (mm_aI M17 b18 0 3).bind fun v19 =>
      some (v19, M17)
set_option maxRecDepth 100000 in
set_option maxHeartbeats 4000000 in
theorem ct_X10_insert {l : Launch} {ω : Wd} {k N : Nat} {M : Mem} {a0 : Nat} {x1 : Int32} {x2 : Int32} {r : Int32} {M' : Mem} (h : fn_X10_insert N M a0 x1 x2 = some (r, M')) : CM l ω k yX10_insert cX10_insert 3 (some .int) 2 0 0 [.ref a0, .int x1, .int x2] M (some (.int r)) M' := by
  refine CM.of (by decide) (Nat.le_of_ble_eq_true rfl) fun Γ hl C hr hi => ?_
  subst hl
  unfold fn_X10_insert at h
  refine jv_aload_n C dX10_insert_0 rfl 0 rfl ?_
  refine jv_iconst (v := 0) C dX10_insert_1 (by decide) ?_
  refine jv_putI C fp_X10_58 dX10_insert_2 h (fun M1 h => ?_)
  refine jv_iload_n C dX10_insert_5 rfl 1 rfl ?_
  refine jv_iload_n C dX10_insert_6 rfl 2 rfl ?_
  refine jv_sI0 (As := [.int x1, .int x2]) C lk_X10_208 dX10_insert_7 rfl rfl (by decide) (by decide) (by decide) (Nat.le_of_ble_eq_true rfl) h (fun _ _ h => ct_X10_isCoin h) (fun v3 M2 h => ?_)
  refine jv_if_ne (tgt := 15) C dX10_insert_10 (by decide) h (fun h => ?_) (fun h => ?_)
  · refine jv_aload_n C dX10_insert_15 rfl 0 rfl ?_
    refine jv_getR C fa_X10_29 dX10_insert_16 h (fun b4 h => ?_)
    refine jv_iconst (v := 3) C dX10_insert_19 (by decide) ?_
    refine jv_iald C dX10_insert_20 h (fun v5 h => ?_)
    refine jv_bipush (v := 60) C dX10_insert_21 (by decide) ?_
    refine jv_icmp_ne (tgt := 29) C dX10_insert_23 (by decide) h (fun h => ?_) (fun h => ?_)
    · refine jv_aload_n C dX10_insert_29 rfl 0 rfl ?_
      refine jv_vV0 (As := []) C lk_X10_271 rfl dX10_insert_30 rfl rfl (by decide) (by decide) (by decide) (Nat.le_of_ble_eq_true rfl) h (fun _ _ h => ct_X10_keep h) (fun _ M6 h => ?_)
      refine jv_aload_n C dX10_insert_33 rfl 0 rfl ?_
      refine jv_getR C fa_X10_29 dX10_insert_34 h (fun b7 h => ?_)
      refine jv_bipush (v := 82) C dX10_insert_37 (by decide) ?_
      refine jv_iconst (v := 2) C dX10_insert_39 (by decide) ?_
      refine jv_aload_n C dX10_insert_40 rfl 0 rfl ?_
      refine jv_getR C fa_X10_29 dX10_insert_41 h (fun b8 h => ?_)
      refine jv_iconst (v := 3) C dX10_insert_44 (by decide) ?_
      refine jv_iald C dX10_insert_45 h (fun v9 h => ?_)
      refine jv_imul C dX10_insert_46 ?_
      refine jv_iadd C dX10_insert_47 ?_
      refine jv_iload_n C dX10_insert_48 rfl 1 rfl ?_
      refine jv_iast C dX10_insert_49 h (fun M10 h => ?_)
      refine jv_aload_n C dX10_insert_50 rfl 0 rfl ?_
      refine jv_getR C fa_X10_29 dX10_insert_51 h (fun b11 h => ?_)
      refine jv_bipush (v := 82) C dX10_insert_54 (by decide) ?_
      refine jv_iconst (v := 2) C dX10_insert_56 (by decide) ?_
      refine jv_aload_n C dX10_insert_57 rfl 0 rfl ?_
      refine jv_getR C fa_X10_29 dX10_insert_58 h (fun b12 h => ?_)
      refine jv_iconst (v := 3) C dX10_insert_61 (by decide) ?_
      refine jv_iald C dX10_insert_62 h (fun v13 h => ?_)
      refine jv_imul C dX10_insert_63 ?_
      refine jv_iadd C dX10_insert_64 ?_
      refine jv_iconst (v := 1) C dX10_insert_65 (by decide) ?_
      refine jv_iadd C dX10_insert_66 ?_
      refine jv_iload_n C dX10_insert_67 rfl 2 rfl ?_
      refine jv_iast C dX10_insert_68 h (fun M14 h => ?_)
      refine jv_aload_n C dX10_insert_69 rfl 0 rfl ?_
      refine jv_getR C fa_X10_29 dX10_insert_70 h (fun b15 h => ?_)
      refine jv_iconst (v := 3) C dX10_insert_73 (by decide) ?_
      refine jv_dup2 C dX10_insert_74 rfl rfl ?_
      refine jv_iald C dX10_insert_75 h (fun v16 h => ?_)
      refine jv_iconst (v := 1) C dX10_insert_76 (by decide) ?_
      refine jv_iadd C dX10_insert_77 ?_
      refine jv_iast C dX10_insert_78 h (fun M17 h => ?_)
      refine jv_aload_n C dX10_insert_79 rfl 0 rfl ?_
      refine jv_getR C fa_X10_29 dX10_insert_80 h (fun b18 h => ?_)
      refine jv_iconst (v := 3) C dX10_insert_83 (by decide) ?_
      refine jv_iald C dX10_insert_84 h (fun v19 h => ?_)
      exact jv_iret C hr dX10_insert_85 h
    · refine jv_bipush (v := (-3)) C dX10_insert_26 (by decide) ?_
      exact jv_iret C hr dX10_insert_28 h
  · refine jv_iconst (v := (-1)) C dX10_insert_13 (by decide) ?_
    exact jv_iret C hr dX10_insert_14 h
theorem dX10_is_0 : decode cX10_is 0 = .ok (.aload_n 0, 1) := by decide +kernel
theorem dX10_is_1 : decode cX10_is 1 = .ok (.getfield 100, 3) := by decide +kernel
theorem dX10_is_4 : decode cX10_is 4 = .ok (.ifCond .ne 27, 3) := by decide +kernel
theorem dX10_is_7 : decode cX10_is 7 = .ok (.aload_n 0, 1) := by decide +kernel
theorem dX10_is_8 : decode cX10_is 8 = .ok (.getfield 82, 3) := by decide +kernel
theorem dX10_is_11 : decode cX10_is 11 = .ok (.iconst 1, 1) := by decide +kernel
theorem dX10_is_12 : decode cX10_is 12 = .ok (.if_icmp .ne 19, 3) := by decide +kernel
theorem dX10_is_15 : decode cX10_is 15 = .ok (.aload_n 0, 1) := by decide +kernel
theorem dX10_is_16 : decode cX10_is 16 = .ok (.getfield 72, 3) := by decide +kernel
theorem dX10_is_19 : decode cX10_is 19 = .ok (.aload_n 0, 1) := by decide +kernel
theorem dX10_is_20 : decode cX10_is 20 = .ok (.getfield 75, 3) := by decide +kernel
theorem dX10_is_23 : decode cX10_is 23 = .ok (.isub, 1) := by decide +kernel
theorem dX10_is_24 : decode cX10_is 24 = .ok (.aload_n 1, 1) := by decide +kernel
theorem dX10_is_25 : decode cX10_is 25 = .ok (.invokevirtual 106, 3) := by decide +kernel
theorem dX10_is_28 : decode cX10_is 28 = .ok (.if_icmp .eq 5, 3) := by decide +kernel
theorem dX10_is_31 : decode cX10_is 31 = .ok (.iconst 0, 1) := by decide +kernel
theorem dX10_is_32 : decode cX10_is 32 = .ok (.ireturn, 1) := by decide +kernel
theorem dX10_is_33 : decode cX10_is 33 = .ok (.iconst 0, 1) := by decide +kernel
theorem dX10_is_34 : decode cX10_is 34 = .ok (.istore_n 2, 1) := by decide +kernel
theorem dX10_is_35 : decode cX10_is 35 = .ok (.iload_n 2, 1) := by decide +kernel
theorem dX10_is_36 : decode cX10_is 36 = .ok (.aload_n 1, 1) := by decide +kernel
theorem dX10_is_37 : decode cX10_is 37 = .ok (.invokevirtual 106, 3) := by decide +kernel
theorem dX10_is_40 : decode cX10_is 40 = .ok (.if_icmp .ge 29, 3) := by decide +kernel
theorem dX10_is_43 : decode cX10_is 43 = .ok (.aload_n 0, 1) := by decide +kernel
theorem dX10_is_44 : decode cX10_is 44 = .ok (.aload_n 0, 1) := by decide +kernel
theorem dX10_is_45 : decode cX10_is 45 = .ok (.getfield 75, 3) := by decide +kernel
theorem dX10_is_48 : decode cX10_is 48 = .ok (.iload_n 2, 1) := by decide +kernel
theorem dX10_is_49 : decode cX10_is 49 = .ok (.iadd, 1) := by decide +kernel
theorem dX10_is_50 : decode cX10_is 50 = .ok (.invokevirtual 78, 3) := by decide +kernel
theorem dX10_is_53 : decode cX10_is 53 = .ok (.aload_n 1, 1) := by decide +kernel
theorem dX10_is_54 : decode cX10_is 54 = .ok (.iload_n 2, 1) := by decide +kernel
theorem dX10_is_55 : decode cX10_is 55 = .ok (.invokevirtual 111, 3) := by decide +kernel
theorem dX10_is_58 : decode cX10_is 58 = .ok (.if_icmp .eq 5, 3) := by decide +kernel
theorem dX10_is_61 : decode cX10_is 61 = .ok (.iconst 0, 1) := by decide +kernel
theorem dX10_is_62 : decode cX10_is 62 = .ok (.ireturn, 1) := by decide +kernel
theorem dX10_is_63 : decode cX10_is 63 = .ok (.iinc 2 1, 3) := by decide +kernel
theorem dX10_is_66 : decode cX10_is 66 = .ok (.goto (-31), 3) := by decide +kernel
theorem dX10_is_69 : decode cX10_is 69 = .ok (.iconst 1, 1) := by decide +kernel
theorem dX10_is_70 : decode cX10_is 70 = .ok (.ireturn, 1) := by decide +kernel
def fn_X10_is_35 (N : Nat) : Nat → Mem → Nat → UInt32 → Int32 → Option (Int32 × Mem)
  | 0, _, _, _, _ => none
  | n + 1, M, a0, s1, x2 =>
    (st_ck s1).bind fun _ => mm_b2 (fn_J0_length_8abf5 N M s1) fun v2 M1 =>
    if v2 ≤ x2 then
      some (1, M1)
    else
      (mm_gI M1 a0 10 4).bind fun v3 =>
      (mm_ck M1 a0 10).bind fun _ => mm_b2 (fn_X10_byteAt N M1 a0 ((v3 + x2))) fun v5 M4 =>
      (st_ck s1).bind fun _ => mm_b2 (fn_J0_charAt_5068e N M4 s1 x2) fun v7 M6 =>
      if v5 = v7 then
        fn_X10_is_35 N n M6 a0 s1 ((x2 + 1))
      else
        some (0, M6)
set_option maxRecDepth 100000 in
set_option maxHeartbeats 4000000 in
theorem bk_X10_is_35 {Γ : Gm} {ω : Wd} {k N : Nat} {r : Int32} {M' : Mem} (C : Cx Γ cX10_is 3 RX10 ω 4 0 0) (hr : Γ.meth.sig.returnType = (some .boolean)) : ∀ (n : Nat) (M : Mem) (a0 : Nat) (s1 : UInt32) (x2 : Int32), fn_X10_is_35 N n M a0 s1 x2 = some (r, M') → JJ Γ (QF Γ ω k 0 0 (some (.int r)) M') 3 ω k M 0 0 35 [(0, .ref a0), (1, .float s1), (2, .int x2)] [] := by
  intro n
  induction n with
  | zero => intro M a0 s1 x2 h; exact jv_no h
  | succ n ih =>
    intro M a0 s1 x2 h
    rw [fn_X10_is_35.eq_2] at h
    refine jv_iload_n C dX10_is_35 rfl 2 rfl ?_
    refine jv_sload_n C dX10_is_36 rfl 1 rfl ?_
    refine jv_wI0 (As := []) C lk_X10_106 rfl dX10_is_37 rfl rfl (by decide) (by decide) (by decide) (Nat.le_of_ble_eq_true rfl) h (fun _ _ h => ct_J0_length_8abf5 h) (fun v2 M1 h => ?_)
    refine jv_icmp_ge (tgt := 69) C dX10_is_40 (by decide) h (fun h => ?_) (fun h => ?_)
    · refine jv_iconst (v := 1) C dX10_is_69 (by decide) ?_
      exact jv_zretc C hr (Or.inr rfl) dX10_is_70 h
    · refine jv_aload_n C dX10_is_43 rfl 0 rfl ?_
      refine jv_aload_n C dX10_is_44 rfl 0 rfl ?_
      refine jv_getI C fa_X10_75 dX10_is_45 h (fun v3 h => ?_)
      refine jv_iload_n C dX10_is_48 rfl 2 rfl ?_
      refine jv_iadd C dX10_is_49 ?_
      refine jv_vI0 (As := [.int (v3 + x2)]) C lk_X10_78 rfl dX10_is_50 rfl rfl (by decide) (by decide) (by decide) (Nat.le_of_ble_eq_true rfl) h (fun _ _ h => ct_X10_byteAt h) (fun v5 M4 h => ?_)
      refine jv_sload_n C dX10_is_53 rfl 1 rfl ?_
      refine jv_iload_n C dX10_is_54 rfl 2 rfl ?_
      refine jv_wI0 (As := [.int x2]) C lk_X10_111 rfl dX10_is_55 rfl rfl (by decide) (by decide) (by decide) (Nat.le_of_ble_eq_true rfl) h (fun _ _ h => ct_J0_charAt_5068e h) (fun v7 M6 h => ?_)
      refine jv_icmp_eq (tgt := 63) C dX10_is_58 (by decide) h (fun h => ?_) (fun h => ?_)
      · refine jv_iinc (v := 1) (lv' := [(2, .int (x2 + 1)), (0, .ref a0), (1, .float s1)]) C dX10_is_63 2 rfl (by decide) (by decide) rfl ?_
        refine jv_goto (tgt := 35) C dX10_is_66 (by decide) ?_
        refine jv_sub [1, 2, 0] rfl ?_
        exact ih _ _ _ _ h
      · refine jv_iconst (v := 0) C dX10_is_61 (by decide) ?_
        exact jv_zretc C hr (Or.inl rfl) dX10_is_62 h
def fn_X10_is (N : Nat) (M : Mem) (a0 : Nat) (s1 : UInt32) : Option (Int32 × Mem) :=
  (mm_gI M a0 10 8).bind fun v1 =>
  if v1 = 0 then
    (mm_gI M a0 10 6).bind fun v2 =>
    if v2 = 1 then
      (mm_gI M a0 10 5).bind fun v3 =>
      (mm_gI M a0 10 4).bind fun v4 =>
      (st_ck s1).bind fun _ => mm_b2 (fn_J0_length_8abf5 N M s1) fun v6 M5 =>
      if (v3 - v4) = v6 then
        fn_X10_is_35 N N M5 a0 s1 0
      else
        some (0, M5)
    else
      some (0, M)
  else
    some (0, M)
set_option maxRecDepth 100000 in
set_option maxHeartbeats 4000000 in
theorem ct_X10_is {l : Launch} {ω : Wd} {k N : Nat} {M : Mem} {a0 : Nat} {s1 : UInt32} {r : Int32} {M' : Mem} (h : fn_X10_is N M a0 s1 = some (r, M')) : CM l ω k yX10_is cX10_is 3 (some .boolean) 4 0 0 [.ref a0, .float s1] M (some (.int r)) M' := by
  refine CM.of (by decide) (Nat.le_of_ble_eq_true rfl) fun Γ hl C hr hi => ?_
  subst hl
  unfold fn_X10_is at h
  refine jv_aload_n C dX10_is_0 rfl 0 rfl ?_
  refine jv_getI C fa_X10_100 dX10_is_1 h (fun v1 h => ?_)
  refine jv_if_ne (tgt := 31) C dX10_is_4 (by decide) h (fun h => ?_) (fun h => ?_)
  · refine jv_iconst (v := 0) C dX10_is_31 (by decide) ?_
    exact jv_zretc C hr (Or.inl rfl) dX10_is_32 h
  · refine jv_aload_n C dX10_is_7 rfl 0 rfl ?_
    refine jv_getI C fa_X10_82 dX10_is_8 h (fun v2 h => ?_)
    refine jv_iconst (v := 1) C dX10_is_11 (by decide) ?_
    refine jv_icmp_ne (tgt := 31) C dX10_is_12 (by decide) h (fun h => ?_) (fun h => ?_)
    · refine jv_iconst (v := 0) C dX10_is_31 (by decide) ?_
      exact jv_zretc C hr (Or.inl rfl) dX10_is_32 h
    · refine jv_aload_n C dX10_is_15 rfl 0 rfl ?_
      refine jv_getI C fa_X10_72 dX10_is_16 h (fun v3 h => ?_)
      refine jv_aload_n C dX10_is_19 rfl 0 rfl ?_
      refine jv_getI C fa_X10_75 dX10_is_20 h (fun v4 h => ?_)
      refine jv_isub C dX10_is_23 ?_
      refine jv_sload_n C dX10_is_24 rfl 1 rfl ?_
      refine jv_wI0 (As := []) C lk_X10_106 rfl dX10_is_25 rfl rfl (by decide) (by decide) (by decide) (Nat.le_of_ble_eq_true rfl) h (fun _ _ h => ct_J0_length_8abf5 h) (fun v6 M5 h => ?_)
      refine jv_icmp_eq (tgt := 33) C dX10_is_28 (by decide) h (fun h => ?_) (fun h => ?_)
      · refine jv_iconst (v := 0) C dX10_is_33 (by decide) ?_
        refine jv_istore_n (lv' := [(2, .int 0), (0, .ref a0), (1, .float s1)]) C dX10_is_34 rfl (by decide) rfl ?_
        refine jv_sub [1, 2, 0] rfl ?_
        exact bk_X10_is_35 C hr _ _ _ _ _ h
      · refine jv_iconst (v := 0) C dX10_is_31 (by decide) ?_
        exact jv_zretc C hr (Or.inl rfl) dX10_is_32 h
theorem dX10_isJammed_0 : decode cX10_isJammed 0 = .ok (.aload_n 0, 1) := by decide +kernel
theorem dX10_isJammed_1 : decode cX10_isJammed 1 = .ok (.iconst 0, 1) := by decide +kernel
theorem dX10_isJammed_2 : decode cX10_isJammed 2 = .ok (.putfield 58, 3) := by decide +kernel
theorem dX10_isJammed_5 : decode cX10_isJammed 5 = .ok (.aload_n 0, 1) := by decide +kernel
theorem dX10_isJammed_6 : decode cX10_isJammed 6 = .ok (.getfield 29, 3) := by decide +kernel
theorem dX10_isJammed_9 : decode cX10_isJammed 9 = .ok (.iconst 5, 1) := by decide +kernel
theorem dX10_isJammed_10 : decode cX10_isJammed 10 = .ok (.iaload, 1) := by decide +kernel
theorem dX10_isJammed_11 : decode cX10_isJammed 11 = .ok (.iconst 1, 1) := by decide +kernel
theorem dX10_isJammed_12 : decode cX10_isJammed 12 = .ok (.if_icmp .ne 7, 3) := by decide +kernel
theorem dX10_isJammed_15 : decode cX10_isJammed 15 = .ok (.iconst 1, 1) := by decide +kernel
theorem dX10_isJammed_16 : decode cX10_isJammed 16 = .ok (.goto 4, 3) := by decide +kernel
theorem dX10_isJammed_19 : decode cX10_isJammed 19 = .ok (.iconst 0, 1) := by decide +kernel
theorem dX10_isJammed_20 : decode cX10_isJammed 20 = .ok (.ireturn, 1) := by decide +kernel
def fn_X10_isJammed (N : Nat) (M : Mem) (a0 : Nat) : Option (Int32 × Mem) :=
  (mm_pV M a0 10 0 (.int 0)).bind fun M1 =>
  (mm_gR M1 a0 10 16).bind fun b2 =>
  (mm_aI M1 b2 0 5).bind fun v3 =>
  if v3 = 1 then
    some (1, M1)
  else
    some (0, M1)
set_option maxRecDepth 100000 in
set_option maxHeartbeats 4000000 in
theorem ct_X10_isJammed {l : Launch} {ω : Wd} {k N : Nat} {M : Mem} {a0 : Nat} {r : Int32} {M' : Mem} (h : fn_X10_isJammed N M a0 = some (r, M')) : CM l ω k yX10_isJammed cX10_isJammed 1 (some .boolean) 0 0 0 [.ref a0] M (some (.int r)) M' := by
  refine CM.of (by decide) (Nat.le_of_ble_eq_true rfl) fun Γ hl C hr hi => ?_
  subst hl
  unfold fn_X10_isJammed at h
  refine jv_aload_n C dX10_isJammed_0 rfl 0 rfl ?_
  refine jv_iconst (v := 0) C dX10_isJammed_1 (by decide) ?_
  refine jv_putI C fp_X10_58 dX10_isJammed_2 h (fun M1 h => ?_)
  refine jv_aload_n C dX10_isJammed_5 rfl 0 rfl ?_
  refine jv_getR C fa_X10_29 dX10_isJammed_6 h (fun b2 h => ?_)
  refine jv_iconst (v := 5) C dX10_isJammed_9 (by decide) ?_
  refine jv_iald C dX10_isJammed_10 h (fun v3 h => ?_)
  refine jv_iconst (v := 1) C dX10_isJammed_11 (by decide) ?_
  refine jv_icmp_ne (tgt := 19) C dX10_isJammed_12 (by decide) h (fun h => ?_) (fun h => ?_)
  · refine jv_iconst (v := 0) C dX10_isJammed_19 (by decide) ?_
    exact jv_zretc C hr (Or.inl rfl) dX10_isJammed_20 h
  · refine jv_iconst (v := 1) C dX10_isJammed_15 (by decide) ?_
    refine jv_goto (tgt := 20) C dX10_isJammed_16 (by decide) ?_
    exact jv_zretc C hr (Or.inr rfl) dX10_isJammed_20 h
theorem dX10_isStep_0 : decode cX10_isStep 0 = .ok (.iload_n 1, 1) := by decide +kernel
theorem dX10_isStep_1 : decode cX10_isStep 1 = .ok (.bipush (-2), 2) := by decide +kernel
theorem dX10_isStep_3 : decode cX10_isStep 3 = .ok (.if_icmp .eq 13, 3) := by decide +kernel
theorem dX10_isStep_6 : decode cX10_isStep 6 = .ok (.iload_n 1, 1) := by decide +kernel
theorem dX10_isStep_7 : decode cX10_isStep 7 = .ok (.bipush 30, 2) := by decide +kernel
theorem dX10_isStep_9 : decode cX10_isStep 9 = .ok (.if_icmp .eq 7, 3) := by decide +kernel
theorem dX10_isStep_12 : decode cX10_isStep 12 = .ok (.iconst 1, 1) := by decide +kernel
theorem dX10_isStep_13 : decode cX10_isStep 13 = .ok (.goto 4, 3) := by decide +kernel
theorem dX10_isStep_16 : decode cX10_isStep 16 = .ok (.iconst 0, 1) := by decide +kernel
theorem dX10_isStep_17 : decode cX10_isStep 17 = .ok (.ireturn, 1) := by decide +kernel
def fn_X10_isStep (N : Nat) (M : Mem) (a0 : Nat) (x1 : Int32) : Option (Int32 × Mem) :=
  if x1 = (-2) then
    some (0, M)
  else
    if x1 = 30 then
      some (0, M)
    else
      some (1, M)
set_option maxRecDepth 100000 in
set_option maxHeartbeats 4000000 in
theorem ct_X10_isStep {l : Launch} {ω : Wd} {k N : Nat} {M : Mem} {a0 : Nat} {x1 : Int32} {r : Int32} {M' : Mem} (h : fn_X10_isStep N M a0 x1 = some (r, M')) : CM l ω k yX10_isStep cX10_isStep 2 (some .boolean) 0 0 0 [.ref a0, .int x1] M (some (.int r)) M' := by
  refine CM.of (by decide) (Nat.le_of_ble_eq_true rfl) fun Γ hl C hr hi => ?_
  subst hl
  unfold fn_X10_isStep at h
  refine jv_iload_n C dX10_isStep_0 rfl 1 rfl ?_
  refine jv_bipush (v := (-2)) C dX10_isStep_1 (by decide) ?_
  refine jv_icmp_eq (tgt := 16) C dX10_isStep_3 (by decide) h (fun h => ?_) (fun h => ?_)
  · refine jv_iconst (v := 0) C dX10_isStep_16 (by decide) ?_
    exact jv_zretc C hr (Or.inl rfl) dX10_isStep_17 h
  · refine jv_iload_n C dX10_isStep_6 rfl 1 rfl ?_
    refine jv_bipush (v := 30) C dX10_isStep_7 (by decide) ?_
    refine jv_icmp_eq (tgt := 16) C dX10_isStep_9 (by decide) h (fun h => ?_) (fun h => ?_)
    · refine jv_iconst (v := 0) C dX10_isStep_16 (by decide) ?_
      exact jv_zretc C hr (Or.inl rfl) dX10_isStep_17 h
    · refine jv_iconst (v := 1) C dX10_isStep_12 (by decide) ?_
      refine jv_goto (tgt := 17) C dX10_isStep_13 (by decide) ?_
      exact jv_zretc C hr (Or.inr rfl) dX10_isStep_17 h
theorem dX10_nextOutcome_0 : decode cX10_nextOutcome 0 = .ok (.aload_n 0, 1) := by decide +kernel
theorem dX10_nextOutcome_1 : decode cX10_nextOutcome 1 = .ok (.getfield 29, 3) := by decide +kernel
theorem dX10_nextOutcome_4 : decode cX10_nextOutcome 4 = .ok (.iconst 5, 1) := by decide +kernel
theorem dX10_nextOutcome_5 : decode cX10_nextOutcome 5 = .ok (.iaload, 1) := by decide +kernel
theorem dX10_nextOutcome_6 : decode cX10_nextOutcome 6 = .ok (.iconst 1, 1) := by decide +kernel
theorem dX10_nextOutcome_7 : decode cX10_nextOutcome 7 = .ok (.if_icmp .ne 6, 3) := by decide +kernel
theorem dX10_nextOutcome_10 : decode cX10_nextOutcome 10 = .ok (.bipush (-2), 2) := by decide +kernel
theorem dX10_nextOutcome_12 : decode cX10_nextOutcome 12 = .ok (.ireturn, 1) := by decide +kernel
theorem dX10_nextOutcome_13 : decode cX10_nextOutcome 13 = .ok (.aload_n 0, 1) := by decide +kernel
theorem dX10_nextOutcome_14 : decode cX10_nextOutcome 14 = .ok (.invokevirtual 221, 3) := by decide +kernel
theorem dX10_nextOutcome_17 : decode cX10_nextOutcome 17 = .ok (.istore_n 1, 1) := by decide +kernel
theorem dX10_nextOutcome_18 : decode cX10_nextOutcome 18 = .ok (.iload_n 1, 1) := by decide +kernel
theorem dX10_nextOutcome_19 : decode cX10_nextOutcome 19 = .ok (.ifCond .lt 17, 3) := by decide +kernel
theorem dX10_nextOutcome_22 : decode cX10_nextOutcome 22 = .ok (.aload_n 0, 1) := by decide +kernel
theorem dX10_nextOutcome_23 : decode cX10_nextOutcome 23 = .ok (.aload_n 0, 1) := by decide +kernel
theorem dX10_nextOutcome_24 : decode cX10_nextOutcome 24 = .ok (.getfield 29, 3) := by decide +kernel
theorem dX10_nextOutcome_27 : decode cX10_nextOutcome 27 = .ok (.bipush 22, 2) := by decide +kernel
theorem dX10_nextOutcome_29 : decode cX10_nextOutcome 29 = .ok (.iload_n 1, 1) := by decide +kernel
theorem dX10_nextOutcome_30 : decode cX10_nextOutcome 30 = .ok (.iadd, 1) := by decide +kernel
theorem dX10_nextOutcome_31 : decode cX10_nextOutcome 31 = .ok (.iaload, 1) := by decide +kernel
theorem dX10_nextOutcome_32 : decode cX10_nextOutcome 32 = .ok (.invokevirtual 218, 3) := by decide +kernel
theorem dX10_nextOutcome_35 : decode cX10_nextOutcome 35 = .ok (.ireturn, 1) := by decide +kernel
theorem dX10_nextOutcome_36 : decode cX10_nextOutcome 36 = .ok (.aload_n 0, 1) := by decide +kernel
theorem dX10_nextOutcome_37 : decode cX10_nextOutcome 37 = .ok (.getfield 29, 3) := by decide +kernel
theorem dX10_nextOutcome_40 : decode cX10_nextOutcome 40 = .ok (.iconst 3, 1) := by decide +kernel
theorem dX10_nextOutcome_41 : decode cX10_nextOutcome 41 = .ok (.iaload, 1) := by decide +kernel
theorem dX10_nextOutcome_42 : decode cX10_nextOutcome 42 = .ok (.ifCond .ne 6, 3) := by decide +kernel
theorem dX10_nextOutcome_45 : decode cX10_nextOutcome 45 = .ok (.bipush (-2), 2) := by decide +kernel
theorem dX10_nextOutcome_47 : decode cX10_nextOutcome 47 = .ok (.ireturn, 1) := by decide +kernel
theorem dX10_nextOutcome_48 : decode cX10_nextOutcome 48 = .ok (.aload_n 0, 1) := by decide +kernel
theorem dX10_nextOutcome_49 : decode cX10_nextOutcome 49 = .ok (.getfield 29, 3) := by decide +kernel
theorem dX10_nextOutcome_52 : decode cX10_nextOutcome 52 = .ok (.bipush 82, 2) := by decide +kernel
theorem dX10_nextOutcome_54 : decode cX10_nextOutcome 54 = .ok (.iaload, 1) := by decide +kernel
theorem dX10_nextOutcome_55 : decode cX10_nextOutcome 55 = .ok (.aload_n 0, 1) := by decide +kernel
theorem dX10_nextOutcome_56 : decode cX10_nextOutcome 56 = .ok (.getfield 13, 3) := by decide +kernel
theorem dX10_nextOutcome_59 : decode cX10_nextOutcome 59 = .ok (.iconst 3, 1) := by decide +kernel
theorem dX10_nextOutcome_60 : decode cX10_nextOutcome 60 = .ok (.iaload, 1) := by decide +kernel
theorem dX10_nextOutcome_61 : decode cX10_nextOutcome 61 = .ok (.if_icmp .le 6, 3) := by decide +kernel
theorem dX10_nextOutcome_64 : decode cX10_nextOutcome 64 = .ok (.bipush 24, 2) := by decide +kernel
theorem dX10_nextOutcome_66 : decode cX10_nextOutcome 66 = .ok (.ireturn, 1) := by decide +kernel
theorem dX10_nextOutcome_67 : decode cX10_nextOutcome 67 = .ok (.aload_n 0, 1) := by decide +kernel
theorem dX10_nextOutcome_68 : decode cX10_nextOutcome 68 = .ok (.aload_n 0, 1) := by decide +kernel
theorem dX10_nextOutcome_69 : decode cX10_nextOutcome 69 = .ok (.getfield 29, 3) := by decide +kernel
theorem dX10_nextOutcome_72 : decode cX10_nextOutcome 72 = .ok (.bipush 82, 2) := by decide +kernel
theorem dX10_nextOutcome_74 : decode cX10_nextOutcome 74 = .ok (.iaload, 1) := by decide +kernel
theorem dX10_nextOutcome_75 : decode cX10_nextOutcome 75 = .ok (.aload_n 0, 1) := by decide +kernel
theorem dX10_nextOutcome_76 : decode cX10_nextOutcome 76 = .ok (.getfield 29, 3) := by decide +kernel
theorem dX10_nextOutcome_79 : decode cX10_nextOutcome 79 = .ok (.bipush 83, 2) := by decide +kernel
theorem dX10_nextOutcome_81 : decode cX10_nextOutcome 81 = .ok (.iaload, 1) := by decide +kernel
theorem dX10_nextOutcome_82 : decode cX10_nextOutcome 82 = .ok (.aload_n 0, 1) := by decide +kernel
theorem dX10_nextOutcome_83 : decode cX10_nextOutcome 83 = .ok (.getfield 29, 3) := by decide +kernel
theorem dX10_nextOutcome_86 : decode cX10_nextOutcome 86 = .ok (.iconst 2, 1) := by decide +kernel
theorem dX10_nextOutcome_87 : decode cX10_nextOutcome 87 = .ok (.iaload, 1) := by decide +kernel
theorem dX10_nextOutcome_88 : decode cX10_nextOutcome 88 = .ok (.invokevirtual 212, 3) := by decide +kernel
theorem dX10_nextOutcome_91 : decode cX10_nextOutcome 91 = .ok (.istore_n 2, 1) := by decide +kernel
theorem dX10_nextOutcome_92 : decode cX10_nextOutcome 92 = .ok (.iload_n 2, 1) := by decide +kernel
theorem dX10_nextOutcome_93 : decode cX10_nextOutcome 93 = .ok (.bipush 21, 2) := by decide +kernel
theorem dX10_nextOutcome_95 : decode cX10_nextOutcome 95 = .ok (.if_icmp .lt 5, 3) := by decide +kernel
theorem dX10_nextOutcome_98 : decode cX10_nextOutcome 98 = .ok (.iload_n 2, 1) := by decide +kernel
theorem dX10_nextOutcome_99 : decode cX10_nextOutcome 99 = .ok (.ireturn, 1) := by decide +kernel
theorem dX10_nextOutcome_100 : decode cX10_nextOutcome 100 = .ok (.aload_n 0, 1) := by decide +kernel
theorem dX10_nextOutcome_101 : decode cX10_nextOutcome 101 = .ok (.iload_n 2, 1) := by decide +kernel
theorem dX10_nextOutcome_102 : decode cX10_nextOutcome 102 = .ok (.invokevirtual 224, 3) := by decide +kernel
theorem dX10_nextOutcome_105 : decode cX10_nextOutcome 105 = .ok (.ifCond .ne 6, 3) := by decide +kernel
theorem dX10_nextOutcome_108 : decode cX10_nextOutcome 108 = .ok (.bipush 23, 2) := by decide +kernel
theorem dX10_nextOutcome_110 : decode cX10_nextOutcome 110 = .ok (.ireturn, 1) := by decide +kernel
theorem dX10_nextOutcome_111 : decode cX10_nextOutcome 111 = .ok (.aload_n 0, 1) := by decide +kernel
theorem dX10_nextOutcome_112 : decode cX10_nextOutcome 112 = .ok (.iload_n 2, 1) := by decide +kernel
theorem dX10_nextOutcome_113 : decode cX10_nextOutcome 113 = .ok (.invokevirtual 218, 3) := by decide +kernel
theorem dX10_nextOutcome_116 : decode cX10_nextOutcome 116 = .ok (.istore_n 3, 1) := by decide +kernel
theorem dX10_nextOutcome_117 : decode cX10_nextOutcome 117 = .ok (.iload_n 3, 1) := by decide +kernel
theorem dX10_nextOutcome_118 : decode cX10_nextOutcome 118 = .ok (.ifCond .lt 7, 3) := by decide +kernel
theorem dX10_nextOutcome_121 : decode cX10_nextOutcome 121 = .ok (.iload_n 3, 1) := by decide +kernel
theorem dX10_nextOutcome_122 : decode cX10_nextOutcome 122 = .ok (.goto 25, 3) := by decide +kernel
theorem dX10_nextOutcome_125 : decode cX10_nextOutcome 125 = .ok (.aload_n 0, 1) := by decide +kernel
theorem dX10_nextOutcome_126 : decode cX10_nextOutcome 126 = .ok (.getfield 29, 3) := by decide +kernel
theorem dX10_nextOutcome_129 : decode cX10_nextOutcome 129 = .ok (.iconst 4, 1) := by decide +kernel
theorem dX10_nextOutcome_130 : decode cX10_nextOutcome 130 = .ok (.iaload, 1) := by decide +kernel
theorem dX10_nextOutcome_131 : decode cX10_nextOutcome 131 = .ok (.aload_n 0, 1) := by decide +kernel
theorem dX10_nextOutcome_132 : decode cX10_nextOutcome 132 = .ok (.getfield 13, 3) := by decide +kernel
theorem dX10_nextOutcome_135 : decode cX10_nextOutcome 135 = .ok (.iconst 4, 1) := by decide +kernel
theorem dX10_nextOutcome_136 : decode cX10_nextOutcome 136 = .ok (.iaload, 1) := by decide +kernel
theorem dX10_nextOutcome_137 : decode cX10_nextOutcome 137 = .ok (.if_icmp .ge 8, 3) := by decide +kernel
theorem dX10_nextOutcome_140 : decode cX10_nextOutcome 140 = .ok (.bipush 20, 2) := by decide +kernel
theorem dX10_nextOutcome_142 : decode cX10_nextOutcome 142 = .ok (.goto 5, 3) := by decide +kernel
theorem dX10_nextOutcome_145 : decode cX10_nextOutcome 145 = .ok (.bipush 30, 2) := by decide +kernel
theorem dX10_nextOutcome_147 : decode cX10_nextOutcome 147 = .ok (.ireturn, 1) := by decide +kernel
def fn_X10_nextOutcome (N : Nat) (M : Mem) (a0 : Nat) : Option (Int32 × Mem) :=
  (mm_gR M a0 10 16).bind fun b1 =>
  (mm_aI M b1 0 5).bind fun v2 =>
  if v2 = 1 then
    some ((-2), M)
  else
    (mm_ck M a0 10).bind fun _ => mm_b2 (fn_X10_movable N M a0) fun v4 M3 =>
    if v4 < 0 then
      (mm_gR M3 a0 10 16).bind fun b5 =>
      (mm_aI M3 b5 0 3).bind fun v6 =>
      if v6 = 0 then
        some ((-2), M3)
      else
        (mm_gR M3 a0 10 16).bind fun b7 =>
        (mm_aI M3 b7 0 82).bind fun v8 =>
        (mm_gR M3 a0 10 10).bind fun b9 =>
        (mm_aI M3 b9 0 3).bind fun v10 =>
        if v8 ≤ v10 then
          (mm_gR M3 a0 10 16).bind fun b11 =>
          (mm_aI M3 b11 0 82).bind fun v12 =>
          (mm_gR M3 a0 10 16).bind fun b13 =>
          (mm_aI M3 b13 0 83).bind fun v14 =>
          (mm_gR M3 a0 10 16).bind fun b15 =>
          (mm_aI M3 b15 0 2).bind fun v16 =>
          (mm_ck M3 a0 10).bind fun _ => mm_b2 (fn_X10_verdict N M3 a0 v12 v14 v16) fun v18 M17 =>
          if v18 < 21 then
            (mm_ck M17 a0 10).bind fun _ => mm_b2 (fn_X10_hasBin N M17 a0 v18) fun v20 M19 =>
            if v20 = 0 then
              some (23, M19)
            else
              (mm_ck M19 a0 10).bind fun _ => mm_b2 (fn_X10_roomFor N M19 a0 v18) fun v22 M21 =>
              if v22 < 0 then
                (mm_gR M21 a0 10 16).bind fun b23 =>
                (mm_aI M21 b23 0 4).bind fun v24 =>
                (mm_gR M21 a0 10 10).bind fun b25 =>
                (mm_aI M21 b25 0 4).bind fun v26 =>
                if v26 ≤ v24 then
                  some (30, M21)
                else
                  some (20, M21)
              else
                some (v22, M21)
          else
            some (v18, M17)
        else
          some (24, M3)
    else
      (mm_gR M3 a0 10 16).bind fun b27 =>
      (mm_aI M3 b27 0 (22 + v4)).bind fun v28 =>
      (mm_ck M3 a0 10).bind fun _ => mm_b2 (fn_X10_roomFor N M3 a0 v28) fun v30 M29 =>
      some (v30, M29)
set_option maxRecDepth 100000 in
set_option maxHeartbeats 4000000 in
theorem ct_X10_nextOutcome {l : Launch} {ω : Wd} {k N : Nat} {M : Mem} {a0 : Nat} {r : Int32} {M' : Mem} (h : fn_X10_nextOutcome N M a0 = some (r, M')) : CM l ω k yX10_nextOutcome cX10_nextOutcome 4 (some .int) 4 0 0 [.ref a0] M (some (.int r)) M' := by
  refine CM.of (by decide) (Nat.le_of_ble_eq_true rfl) fun Γ hl C hr hi => ?_
  subst hl
  unfold fn_X10_nextOutcome at h
  refine jv_aload_n C dX10_nextOutcome_0 rfl 0 rfl ?_
  refine jv_getR C fa_X10_29 dX10_nextOutcome_1 h (fun b1 h => ?_)
  refine jv_iconst (v := 5) C dX10_nextOutcome_4 (by decide) ?_
  refine jv_iald C dX10_nextOutcome_5 h (fun v2 h => ?_)
  refine jv_iconst (v := 1) C dX10_nextOutcome_6 (by decide) ?_
  refine jv_icmp_ne (tgt := 13) C dX10_nextOutcome_7 (by decide) h (fun h => ?_) (fun h => ?_)
  · refine jv_aload_n C dX10_nextOutcome_13 rfl 0 rfl ?_
    refine jv_vI0 (As := []) C lk_X10_221 rfl dX10_nextOutcome_14 rfl rfl (by decide) (by decide) (by decide) (Nat.le_of_ble_eq_true rfl) h (fun _ _ h => ct_X10_movable h) (fun v4 M3 h => ?_)
    refine jv_istore_n (lv' := [(1, .int v4), (0, .ref a0)]) C dX10_nextOutcome_17 rfl (by decide) rfl ?_
    refine jv_iload_n C dX10_nextOutcome_18 rfl 0 rfl ?_
    refine jv_if_lt (tgt := 36) C dX10_nextOutcome_19 (by decide) h (fun h => ?_) (fun h => ?_)
    · refine jv_aload_n C dX10_nextOutcome_36 rfl 1 rfl ?_
      refine jv_getR C fa_X10_29 dX10_nextOutcome_37 h (fun b5 h => ?_)
      refine jv_iconst (v := 3) C dX10_nextOutcome_40 (by decide) ?_
      refine jv_iald C dX10_nextOutcome_41 h (fun v6 h => ?_)
      refine jv_if_ne (tgt := 48) C dX10_nextOutcome_42 (by decide) h (fun h => ?_) (fun h => ?_)
      · refine jv_aload_n C dX10_nextOutcome_48 rfl 1 rfl ?_
        refine jv_getR C fa_X10_29 dX10_nextOutcome_49 h (fun b7 h => ?_)
        refine jv_bipush (v := 82) C dX10_nextOutcome_52 (by decide) ?_
        refine jv_iald C dX10_nextOutcome_54 h (fun v8 h => ?_)
        refine jv_aload_n C dX10_nextOutcome_55 rfl 1 rfl ?_
        refine jv_getR C fa_X10_13 dX10_nextOutcome_56 h (fun b9 h => ?_)
        refine jv_iconst (v := 3) C dX10_nextOutcome_59 (by decide) ?_
        refine jv_iald C dX10_nextOutcome_60 h (fun v10 h => ?_)
        refine jv_icmp_le (tgt := 67) C dX10_nextOutcome_61 (by decide) h (fun h => ?_) (fun h => ?_)
        · refine jv_aload_n C dX10_nextOutcome_67 rfl 1 rfl ?_
          refine jv_aload_n C dX10_nextOutcome_68 rfl 1 rfl ?_
          refine jv_getR C fa_X10_29 dX10_nextOutcome_69 h (fun b11 h => ?_)
          refine jv_bipush (v := 82) C dX10_nextOutcome_72 (by decide) ?_
          refine jv_iald C dX10_nextOutcome_74 h (fun v12 h => ?_)
          refine jv_aload_n C dX10_nextOutcome_75 rfl 1 rfl ?_
          refine jv_getR C fa_X10_29 dX10_nextOutcome_76 h (fun b13 h => ?_)
          refine jv_bipush (v := 83) C dX10_nextOutcome_79 (by decide) ?_
          refine jv_iald C dX10_nextOutcome_81 h (fun v14 h => ?_)
          refine jv_aload_n C dX10_nextOutcome_82 rfl 1 rfl ?_
          refine jv_getR C fa_X10_29 dX10_nextOutcome_83 h (fun b15 h => ?_)
          refine jv_iconst (v := 2) C dX10_nextOutcome_86 (by decide) ?_
          refine jv_iald C dX10_nextOutcome_87 h (fun v16 h => ?_)
          refine jv_vI0 (As := [.int v12, .int v14, .int v16]) C lk_X10_212 rfl dX10_nextOutcome_88 rfl rfl (by decide) (by decide) (by decide) (Nat.le_of_ble_eq_true rfl) h (fun _ _ h => ct_X10_verdict h) (fun v18 M17 h => ?_)
          refine jv_istore_n (lv' := [(2, .int v18), (1, .int v4), (0, .ref a0)]) C dX10_nextOutcome_91 rfl (by decide) rfl ?_
          refine jv_iload_n C dX10_nextOutcome_92 rfl 0 rfl ?_
          refine jv_bipush (v := 21) C dX10_nextOutcome_93 (by decide) ?_
          refine jv_icmp_lt (tgt := 100) C dX10_nextOutcome_95 (by decide) h (fun h => ?_) (fun h => ?_)
          · refine jv_aload_n C dX10_nextOutcome_100 rfl 2 rfl ?_
            refine jv_iload_n C dX10_nextOutcome_101 rfl 0 rfl ?_
            refine jv_vI0 (As := [.int v18]) C lk_X10_224 rfl dX10_nextOutcome_102 rfl rfl (by decide) (by decide) (by decide) (Nat.le_of_ble_eq_true rfl) h (fun _ _ h => ct_X10_hasBin h) (fun v20 M19 h => ?_)
            refine jv_if_ne (tgt := 111) C dX10_nextOutcome_105 (by decide) h (fun h => ?_) (fun h => ?_)
            · refine jv_aload_n C dX10_nextOutcome_111 rfl 2 rfl ?_
              refine jv_iload_n C dX10_nextOutcome_112 rfl 0 rfl ?_
              refine jv_vI0 (As := [.int v18]) C lk_X10_218 rfl dX10_nextOutcome_113 rfl rfl (by decide) (by decide) (by decide) (Nat.le_of_ble_eq_true rfl) h (fun _ _ h => ct_X10_roomFor h) (fun v22 M21 h => ?_)
              refine jv_istore_n (lv' := [(3, .int v22), (2, .int v18), (1, .int v4), (0, .ref a0)]) C dX10_nextOutcome_116 rfl (by decide) rfl ?_
              refine jv_iload_n C dX10_nextOutcome_117 rfl 0 rfl ?_
              refine jv_if_lt (tgt := 125) C dX10_nextOutcome_118 (by decide) h (fun h => ?_) (fun h => ?_)
              · refine jv_aload_n C dX10_nextOutcome_125 rfl 3 rfl ?_
                refine jv_getR C fa_X10_29 dX10_nextOutcome_126 h (fun b23 h => ?_)
                refine jv_iconst (v := 4) C dX10_nextOutcome_129 (by decide) ?_
                refine jv_iald C dX10_nextOutcome_130 h (fun v24 h => ?_)
                refine jv_aload_n C dX10_nextOutcome_131 rfl 3 rfl ?_
                refine jv_getR C fa_X10_13 dX10_nextOutcome_132 h (fun b25 h => ?_)
                refine jv_iconst (v := 4) C dX10_nextOutcome_135 (by decide) ?_
                refine jv_iald C dX10_nextOutcome_136 h (fun v26 h => ?_)
                refine jv_icmp_ge (tgt := 145) C dX10_nextOutcome_137 (by decide) h (fun h => ?_) (fun h => ?_)
                · refine jv_bipush (v := 30) C dX10_nextOutcome_145 (by decide) ?_
                  exact jv_iret C hr dX10_nextOutcome_147 h
                · refine jv_bipush (v := 20) C dX10_nextOutcome_140 (by decide) ?_
                  refine jv_goto (tgt := 147) C dX10_nextOutcome_142 (by decide) ?_
                  exact jv_iret C hr dX10_nextOutcome_147 h
              · refine jv_iload_n C dX10_nextOutcome_121 rfl 0 rfl ?_
                refine jv_goto (tgt := 147) C dX10_nextOutcome_122 (by decide) ?_
                exact jv_iret C hr dX10_nextOutcome_147 h
            · refine jv_bipush (v := 23) C dX10_nextOutcome_108 (by decide) ?_
              exact jv_iret C hr dX10_nextOutcome_110 h
          · refine jv_iload_n C dX10_nextOutcome_98 rfl 0 rfl ?_
            exact jv_iret C hr dX10_nextOutcome_99 h
        · refine jv_bipush (v := 24) C dX10_nextOutcome_64 (by decide) ?_
          exact jv_iret C hr dX10_nextOutcome_66 h
      · refine jv_bipush (v := (-2)) C dX10_nextOutcome_45 (by decide) ?_
        exact jv_iret C hr dX10_nextOutcome_47 h
    · refine jv_aload_n C dX10_nextOutcome_22 rfl 1 rfl ?_
      refine jv_aload_n C dX10_nextOutcome_23 rfl 1 rfl ?_
      refine jv_getR C fa_X10_29 dX10_nextOutcome_24 h (fun b27 h => ?_)
      refine jv_bipush (v := 22) C dX10_nextOutcome_27 (by decide) ?_
      refine jv_iload_n C dX10_nextOutcome_29 rfl 0 rfl ?_
      refine jv_iadd C dX10_nextOutcome_30 ?_
      refine jv_iald C dX10_nextOutcome_31 h (fun v28 h => ?_)
      refine jv_vI0 (As := [.int v28]) C lk_X10_218 rfl dX10_nextOutcome_32 rfl rfl (by decide) (by decide) (by decide) (Nat.le_of_ble_eq_true rfl) h (fun _ _ h => ct_X10_roomFor h) (fun v30 M29 h => ?_)
      exact jv_iret C hr dX10_nextOutcome_35 h
  · refine jv_bipush (v := (-2)) C dX10_nextOutcome_10 (by decide) ?_
    exact jv_iret C hr dX10_nextOutcome_12 h
theorem dX10_isStopped_0 : decode cX10_isStopped 0 = .ok (.aload_n 0, 1) := by decide +kernel
theorem dX10_isStopped_1 : decode cX10_isStopped 1 = .ok (.iconst 0, 1) := by decide +kernel
theorem dX10_isStopped_2 : decode cX10_isStopped 2 = .ok (.putfield 58, 3) := by decide +kernel
theorem dX10_isStopped_5 : decode cX10_isStopped 5 = .ok (.aload_n 0, 1) := by decide +kernel
theorem dX10_isStopped_6 : decode cX10_isStopped 6 = .ok (.invokevirtual 227, 3) := by decide +kernel
theorem dX10_isStopped_9 : decode cX10_isStopped 9 = .ok (.bipush 30, 2) := by decide +kernel
theorem dX10_isStopped_11 : decode cX10_isStopped 11 = .ok (.if_icmp .ne 7, 3) := by decide +kernel
theorem dX10_isStopped_14 : decode cX10_isStopped 14 = .ok (.iconst 1, 1) := by decide +kernel
theorem dX10_isStopped_15 : decode cX10_isStopped 15 = .ok (.goto 4, 3) := by decide +kernel
theorem dX10_isStopped_18 : decode cX10_isStopped 18 = .ok (.iconst 0, 1) := by decide +kernel
theorem dX10_isStopped_19 : decode cX10_isStopped 19 = .ok (.ireturn, 1) := by decide +kernel
def fn_X10_isStopped (N : Nat) (M : Mem) (a0 : Nat) : Option (Int32 × Mem) :=
  (mm_pV M a0 10 0 (.int 0)).bind fun M1 =>
  (mm_ck M1 a0 10).bind fun _ => mm_b2 (fn_X10_nextOutcome N M1 a0) fun v3 M2 =>
  if v3 = 30 then
    some (1, M2)
  else
    some (0, M2)
set_option maxRecDepth 100000 in
set_option maxHeartbeats 4000000 in
theorem ct_X10_isStopped {l : Launch} {ω : Wd} {k N : Nat} {M : Mem} {a0 : Nat} {r : Int32} {M' : Mem} (h : fn_X10_isStopped N M a0 = some (r, M')) : CM l ω k yX10_isStopped cX10_isStopped 1 (some .boolean) 5 0 0 [.ref a0] M (some (.int r)) M' := by
  refine CM.of (by decide) (Nat.le_of_ble_eq_true rfl) fun Γ hl C hr hi => ?_
  subst hl
  unfold fn_X10_isStopped at h
  refine jv_aload_n C dX10_isStopped_0 rfl 0 rfl ?_
  refine jv_iconst (v := 0) C dX10_isStopped_1 (by decide) ?_
  refine jv_putI C fp_X10_58 dX10_isStopped_2 h (fun M1 h => ?_)
  refine jv_aload_n C dX10_isStopped_5 rfl 0 rfl ?_
  refine jv_vI0 (As := []) C lk_X10_227 rfl dX10_isStopped_6 rfl rfl (by decide) (by decide) (by decide) (Nat.le_of_ble_eq_true rfl) h (fun _ _ h => ct_X10_nextOutcome h) (fun v3 M2 h => ?_)
  refine jv_bipush (v := 30) C dX10_isStopped_9 (by decide) ?_
  refine jv_icmp_ne (tgt := 18) C dX10_isStopped_11 (by decide) h (fun h => ?_) (fun h => ?_)
  · refine jv_iconst (v := 0) C dX10_isStopped_18 (by decide) ?_
    exact jv_zretc C hr (Or.inl rfl) dX10_isStopped_19 h
  · refine jv_iconst (v := 1) C dX10_isStopped_14 (by decide) ?_
    refine jv_goto (tgt := 19) C dX10_isStopped_15 (by decide) ?_
    exact jv_zretc C hr (Or.inr rfl) dX10_isStopped_19 h
theorem dX10_loopSize_0 : decode cX10_loopSize 0 = .ok (.aload_n 0, 1) := by decide +kernel
theorem dX10_loopSize_1 : decode cX10_loopSize 1 = .ok (.aload_n 0, 1) := by decide +kernel
theorem dX10_loopSize_2 : decode cX10_loopSize 2 = .ok (.getfield 29, 3) := by decide +kernel
theorem dX10_loopSize_5 : decode cX10_loopSize 5 = .ok (.iconst 4, 1) := by decide +kernel
theorem dX10_loopSize_6 : decode cX10_loopSize 6 = .ok (.iaload, 1) := by decide +kernel
theorem dX10_loopSize_7 : decode cX10_loopSize 7 = .ok (.invokevirtual 167, 3) := by decide +kernel
theorem dX10_loopSize_10 : decode cX10_loopSize 10 = .ok (.ireturn, 1) := by decide +kernel
def fn_X10_loopSize (N : Nat) (M : Mem) (a0 : Nat) : Option (Int32 × Mem) :=
  (mm_gR M a0 10 16).bind fun b1 =>
  (mm_aI M b1 0 4).bind fun v2 =>
  (mm_ck M a0 10).bind fun _ => mm_b2 (fn_X10_told N M a0 v2) fun v4 M3 =>
  some (v4, M3)
set_option maxRecDepth 100000 in
set_option maxHeartbeats 4000000 in
theorem ct_X10_loopSize {l : Launch} {ω : Wd} {k N : Nat} {M : Mem} {a0 : Nat} {r : Int32} {M' : Mem} (h : fn_X10_loopSize N M a0 = some (r, M')) : CM l ω k yX10_loopSize cX10_loopSize 1 (some .int) 1 0 0 [.ref a0] M (some (.int r)) M' := by
  refine CM.of (by decide) (Nat.le_of_ble_eq_true rfl) fun Γ hl C hr hi => ?_
  subst hl
  unfold fn_X10_loopSize at h
  refine jv_aload_n C dX10_loopSize_0 rfl 0 rfl ?_
  refine jv_aload_n C dX10_loopSize_1 rfl 0 rfl ?_
  refine jv_getR C fa_X10_29 dX10_loopSize_2 h (fun b1 h => ?_)
  refine jv_iconst (v := 4) C dX10_loopSize_5 (by decide) ?_
  refine jv_iald C dX10_loopSize_6 h (fun v2 h => ?_)
  refine jv_vI0 (As := [.int v2]) C lk_X10_167 rfl dX10_loopSize_7 rfl rfl (by decide) (by decide) (by decide) (Nat.le_of_ble_eq_true rfl) h (fun _ _ h => ct_X10_told h) (fun v4 M3 h => ?_)
  exact jv_iret C hr dX10_loopSize_10 h
theorem dX10_loopType_0 : decode cX10_loopType 0 = .ok (.aload_n 0, 1) := by decide +kernel
theorem dX10_loopType_1 : decode cX10_loopType 1 = .ok (.iload_n 1, 1) := by decide +kernel
theorem dX10_loopType_2 : decode cX10_loopType 2 = .ok (.i2l, 1) := by decide +kernel
theorem dX10_loopType_3 : decode cX10_loopType 3 = .ok (.lconst 0, 1) := by decide +kernel
theorem dX10_loopType_4 : decode cX10_loopType 4 = .ok (.aload_n 0, 1) := by decide +kernel
theorem dX10_loopType_5 : decode cX10_loopType 5 = .ok (.getfield 29, 3) := by decide +kernel
theorem dX10_loopType_8 : decode cX10_loopType 8 = .ok (.iconst 4, 1) := by decide +kernel
theorem dX10_loopType_9 : decode cX10_loopType 9 = .ok (.iaload, 1) := by decide +kernel
theorem dX10_loopType_10 : decode cX10_loopType 10 = .ok (.iconst 1, 1) := by decide +kernel
theorem dX10_loopType_11 : decode cX10_loopType 11 = .ok (.isub, 1) := by decide +kernel
theorem dX10_loopType_12 : decode cX10_loopType 12 = .ok (.i2l, 1) := by decide +kernel
theorem dX10_loopType_13 : decode cX10_loopType 13 = .ok (.invokestatic 89, 3) := by decide +kernel
theorem dX10_loopType_16 : decode cX10_loopType 16 = .ok (.ifCond .eq 15, 3) := by decide +kernel
theorem dX10_loopType_19 : decode cX10_loopType 19 = .ok (.aload_n 0, 1) := by decide +kernel
theorem dX10_loopType_20 : decode cX10_loopType 20 = .ok (.getfield 29, 3) := by decide +kernel
theorem dX10_loopType_23 : decode cX10_loopType 23 = .ok (.bipush 22, 2) := by decide +kernel
theorem dX10_loopType_25 : decode cX10_loopType 25 = .ok (.iload_n 1, 1) := by decide +kernel
theorem dX10_loopType_26 : decode cX10_loopType 26 = .ok (.iadd, 1) := by decide +kernel
theorem dX10_loopType_27 : decode cX10_loopType 27 = .ok (.iaload, 1) := by decide +kernel
theorem dX10_loopType_28 : decode cX10_loopType 28 = .ok (.goto 4, 3) := by decide +kernel
theorem dX10_loopType_31 : decode cX10_loopType 31 = .ok (.iconst (-1), 1) := by decide +kernel
theorem dX10_loopType_32 : decode cX10_loopType 32 = .ok (.invokevirtual 167, 3) := by decide +kernel
theorem dX10_loopType_35 : decode cX10_loopType 35 = .ok (.ireturn, 1) := by decide +kernel
def fn_X10_loopType (N : Nat) (M : Mem) (a0 : Nat) (x1 : Int32) : Option (Int32 × Mem) :=
  (mm_gR M a0 10 16).bind fun b1 =>
  (mm_aI M b1 0 4).bind fun v2 =>
  mm_b2 (fn_X10_within N M ((Int32.toInt64 x1)) 0 ((Int32.toInt64 (v2 - 1)))) fun v4 M3 =>
  if v4 = 0 then
    (mm_ck M3 a0 10).bind fun _ => mm_b2 (fn_X10_told N M3 a0 ((-1))) fun v6 M5 =>
    some (v6, M5)
  else
    (mm_gR M3 a0 10 16).bind fun b7 =>
    (mm_aI M3 b7 0 (22 + x1)).bind fun v8 =>
    (mm_ck M3 a0 10).bind fun _ => mm_b2 (fn_X10_told N M3 a0 v8) fun v10 M9 =>
    some (v10, M9)
set_option maxRecDepth 100000 in
set_option maxHeartbeats 4000000 in
theorem ct_X10_loopType {l : Launch} {ω : Wd} {k N : Nat} {M : Mem} {a0 : Nat} {x1 : Int32} {r : Int32} {M' : Mem} (h : fn_X10_loopType N M a0 x1 = some (r, M')) : CM l ω k yX10_loopType cX10_loopType 2 (some .int) 1 0 0 [.ref a0, .int x1] M (some (.int r)) M' := by
  refine CM.of (by decide) (Nat.le_of_ble_eq_true rfl) fun Γ hl C hr hi => ?_
  subst hl
  unfold fn_X10_loopType at h
  refine jv_aload_n C dX10_loopType_0 rfl 0 rfl ?_
  refine jv_iload_n C dX10_loopType_1 rfl 1 rfl ?_
  refine jv_i2l C dX10_loopType_2 ?_
  refine jv_lconst (v := 0) C dX10_loopType_3 (by decide) ?_
  refine jv_aload_n C dX10_loopType_4 rfl 0 rfl ?_
  refine jv_getR C fa_X10_29 dX10_loopType_5 h (fun b1 h => ?_)
  refine jv_iconst (v := 4) C dX10_loopType_8 (by decide) ?_
  refine jv_iald C dX10_loopType_9 h (fun v2 h => ?_)
  refine jv_iconst (v := 1) C dX10_loopType_10 (by decide) ?_
  refine jv_isub C dX10_loopType_11 ?_
  refine jv_i2l C dX10_loopType_12 ?_
  refine jv_sI0 (As := [.long (Int32.toInt64 x1), .long 0, .long (Int32.toInt64 (v2 - 1))]) C lk_X10_89 dX10_loopType_13 rfl rfl (by decide) (by decide) (by decide) (Nat.le_of_ble_eq_true rfl) h (fun _ _ h => ct_X10_within h) (fun v4 M3 h => ?_)
  refine jv_if_eq (tgt := 31) C dX10_loopType_16 (by decide) h (fun h => ?_) (fun h => ?_)
  · refine jv_iconst (v := (-1)) C dX10_loopType_31 (by decide) ?_
    refine jv_vI0 (As := [.int (-1)]) C lk_X10_167 rfl dX10_loopType_32 rfl rfl (by decide) (by decide) (by decide) (Nat.le_of_ble_eq_true rfl) h (fun _ _ h => ct_X10_told h) (fun v6 M5 h => ?_)
    exact jv_iret C hr dX10_loopType_35 h
  · refine jv_aload_n C dX10_loopType_19 rfl 0 rfl ?_
    refine jv_getR C fa_X10_29 dX10_loopType_20 h (fun b7 h => ?_)
    refine jv_bipush (v := 22) C dX10_loopType_23 (by decide) ?_
    refine jv_iload_n C dX10_loopType_25 rfl 1 rfl ?_
    refine jv_iadd C dX10_loopType_26 ?_
    refine jv_iald C dX10_loopType_27 h (fun v8 h => ?_)
    refine jv_goto (tgt := 32) C dX10_loopType_28 (by decide) ?_
    refine jv_vI0 (As := [.int v8]) C lk_X10_167 rfl dX10_loopType_32 rfl rfl (by decide) (by decide) (by decide) (Nat.le_of_ble_eq_true rfl) h (fun _ _ h => ct_X10_told h) (fun v10 M9 h => ?_)
    exact jv_iret C hr dX10_loopType_35 h
theorem dX10_margin_0 : decode cX10_margin 0 = .ok (.aload_n 0, 1) := by decide +kernel
theorem dX10_margin_1 : decode cX10_margin 1 = .ok (.aload_n 0, 1) := by decide +kernel
theorem dX10_margin_2 : decode cX10_margin 2 = .ok (.getfield 29, 3) := by decide +kernel
theorem dX10_margin_5 : decode cX10_margin 5 = .ok (.iconst 2, 1) := by decide +kernel
theorem dX10_margin_6 : decode cX10_margin 6 = .ok (.iaload, 1) := by decide +kernel
theorem dX10_margin_7 : decode cX10_margin 7 = .ok (.invokevirtual 167, 3) := by decide +kernel
theorem dX10_margin_10 : decode cX10_margin 10 = .ok (.ireturn, 1) := by decide +kernel
def fn_X10_margin (N : Nat) (M : Mem) (a0 : Nat) : Option (Int32 × Mem) :=
  (mm_gR M a0 10 16).bind fun b1 =>
  (mm_aI M b1 0 2).bind fun v2 =>
  (mm_ck M a0 10).bind fun _ => mm_b2 (fn_X10_told N M a0 v2) fun v4 M3 =>
  some (v4, M3)
set_option maxRecDepth 100000 in
set_option maxHeartbeats 4000000 in
theorem ct_X10_margin {l : Launch} {ω : Wd} {k N : Nat} {M : Mem} {a0 : Nat} {r : Int32} {M' : Mem} (h : fn_X10_margin N M a0 = some (r, M')) : CM l ω k yX10_margin cX10_margin 1 (some .int) 1 0 0 [.ref a0] M (some (.int r)) M' := by
  refine CM.of (by decide) (Nat.le_of_ble_eq_true rfl) fun Γ hl C hr hi => ?_
  subst hl
  unfold fn_X10_margin at h
  refine jv_aload_n C dX10_margin_0 rfl 0 rfl ?_
  refine jv_aload_n C dX10_margin_1 rfl 0 rfl ?_
  refine jv_getR C fa_X10_29 dX10_margin_2 h (fun b1 h => ?_)
  refine jv_iconst (v := 2) C dX10_margin_5 (by decide) ?_
  refine jv_iald C dX10_margin_6 h (fun v2 h => ?_)
  refine jv_vI0 (As := [.int v2]) C lk_X10_167 rfl dX10_margin_7 rfl rfl (by decide) (by decide) (by decide) (Nat.le_of_ble_eq_true rfl) h (fun _ _ h => ct_X10_told h) (fun v4 M3 h => ?_)
  exact jv_iret C hr dX10_margin_10 h
theorem dX10_must_0 : decode cX10_must 0 = .ok (.aload_n 0, 1) := by decide +kernel
theorem dX10_must_1 : decode cX10_must 1 = .ok (.getfield 100, 3) := by decide +kernel
theorem dX10_must_4 : decode cX10_must 4 = .ok (.ifCond .ne 20, 3) := by decide +kernel
theorem dX10_must_7 : decode cX10_must 7 = .ok (.iload_n 1, 1) := by decide +kernel
theorem dX10_must_8 : decode cX10_must 8 = .ok (.ifCond .ne 16, 3) := by decide +kernel
theorem dX10_must_11 : decode cX10_must 11 = .ok (.aload_n 0, 1) := by decide +kernel
theorem dX10_must_12 : decode cX10_must 12 = .ok (.iload_n 2, 1) := by decide +kernel
theorem dX10_must_13 : decode cX10_must 13 = .ok (.putfield 100, 3) := by decide +kernel
theorem dX10_must_16 : decode cX10_must 16 = .ok (.aload_n 0, 1) := by decide +kernel
theorem dX10_must_17 : decode cX10_must 17 = .ok (.aload_n 0, 1) := by decide +kernel
theorem dX10_must_18 : decode cX10_must 18 = .ok (.getfield 75, 3) := by decide +kernel
theorem dX10_must_21 : decode cX10_must 21 = .ok (.putfield 103, 3) := by decide +kernel
theorem dX10_must_24 : decode cX10_must 24 = .ok (.aload_n 0, 1) := by decide +kernel
theorem dX10_must_25 : decode cX10_must 25 = .ok (.getfield 100, 3) := by decide +kernel
theorem dX10_must_28 : decode cX10_must 28 = .ok (.ifCond .ne 7, 3) := by decide +kernel
theorem dX10_must_31 : decode cX10_must 31 = .ok (.iconst 1, 1) := by decide +kernel
theorem dX10_must_32 : decode cX10_must 32 = .ok (.goto 4, 3) := by decide +kernel
theorem dX10_must_35 : decode cX10_must 35 = .ok (.iconst 0, 1) := by decide +kernel
theorem dX10_must_36 : decode cX10_must 36 = .ok (.ireturn, 1) := by decide +kernel
def fn_X10_must_24 (N : Nat) (M : Mem) (a0 : Nat) : Option (Int32 × Mem) :=
  (mm_gI M a0 10 8).bind fun v1 =>
  if v1 = 0 then
    some (1, M)
  else
    some (0, M)
set_option maxRecDepth 100000 in
set_option maxHeartbeats 4000000 in
theorem bk_X10_must_24 {Γ : Gm} {ω : Wd} {k N : Nat} {r : Int32} {M' : Mem} (C : Cx Γ cX10_must 3 RX10 ω 0 0 0) (hr : Γ.meth.sig.returnType = (some .boolean)) (M : Mem) (a0 : Nat) (h : fn_X10_must_24 N M a0 = some (r, M')) : JJ Γ (QF Γ ω k 0 0 (some (.int r)) M') 3 ω k M 0 0 24 [(0, .ref a0)] [] := by
  unfold fn_X10_must_24 at h
  refine jv_aload_n C dX10_must_24 rfl 0 rfl ?_
  refine jv_getI C fa_X10_100 dX10_must_25 h (fun v1 h => ?_)
  refine jv_if_ne (tgt := 35) C dX10_must_28 (by decide) h (fun h => ?_) (fun h => ?_)
  · refine jv_iconst (v := 0) C dX10_must_35 (by decide) ?_
    exact jv_zretc C hr (Or.inl rfl) dX10_must_36 h
  · refine jv_iconst (v := 1) C dX10_must_31 (by decide) ?_
    refine jv_goto (tgt := 36) C dX10_must_32 (by decide) ?_
    exact jv_zretc C hr (Or.inr rfl) dX10_must_36 h
def fn_X10_must (N : Nat) (M : Mem) (a0 : Nat) (x1 : Int32) (x2 : Int32) : Option (Int32 × Mem) :=
  (mm_gI M a0 10 8).bind fun v1 =>
  if v1 = 0 then
    if x1 = 0 then
      (mm_pV M a0 10 8 (.int x2)).bind fun M2 =>
      (mm_gI M2 a0 10 4).bind fun v3 =>
      (mm_pV M2 a0 10 9 (.int v3)).bind fun M4 =>
      fn_X10_must_24 N M4 a0
    else
      fn_X10_must_24 N M a0
  else
    fn_X10_must_24 N M a0
set_option maxRecDepth 100000 in
set_option maxHeartbeats 4000000 in
theorem ct_X10_must {l : Launch} {ω : Wd} {k N : Nat} {M : Mem} {a0 : Nat} {x1 : Int32} {x2 : Int32} {r : Int32} {M' : Mem} (h : fn_X10_must N M a0 x1 x2 = some (r, M')) : CM l ω k yX10_must cX10_must 3 (some .boolean) 0 0 0 [.ref a0, .int x1, .int x2] M (some (.int r)) M' := by
  refine CM.of (by decide) (Nat.le_of_ble_eq_true rfl) fun Γ hl C hr hi => ?_
  subst hl
  unfold fn_X10_must at h
  refine jv_aload_n C dX10_must_0 rfl 0 rfl ?_
  refine jv_getI C fa_X10_100 dX10_must_1 h (fun v1 h => ?_)
  refine jv_if_ne (tgt := 24) C dX10_must_4 (by decide) h (fun h => ?_) (fun h => ?_)
  · refine jv_sub [0] rfl ?_
    exact bk_X10_must_24 C hr _ _ h
  · refine jv_iload_n C dX10_must_7 rfl 1 rfl ?_
    refine jv_if_ne (tgt := 24) C dX10_must_8 (by decide) h (fun h => ?_) (fun h => ?_)
    · refine jv_sub [0] rfl ?_
      exact bk_X10_must_24 C hr _ _ h
    · refine jv_aload_n C dX10_must_11 rfl 0 rfl ?_
      refine jv_iload_n C dX10_must_12 rfl 2 rfl ?_
      refine jv_putI C fp_X10_100 dX10_must_13 h (fun M2 h => ?_)
      refine jv_aload_n C dX10_must_16 rfl 0 rfl ?_
      refine jv_aload_n C dX10_must_17 rfl 0 rfl ?_
      refine jv_getI C fa_X10_75 dX10_must_18 h (fun v3 h => ?_)
      refine jv_putI C fp_X10_103 dX10_must_21 h (fun M4 h => ?_)
      refine jv_sub [0] rfl ?_
      exact bk_X10_must_24 C hr _ _ h
theorem dX10_nextToken_0 : decode cX10_nextToken 0 = .ok (.aload_n 0, 1) := by decide +kernel
theorem dX10_nextToken_1 : decode cX10_nextToken 1 = .ok (.aload_n 0, 1) := by decide +kernel
theorem dX10_nextToken_2 : decode cX10_nextToken 2 = .ok (.getfield 72, 3) := by decide +kernel
theorem dX10_nextToken_5 : decode cX10_nextToken 5 = .ok (.putfield 75, 3) := by decide +kernel
theorem dX10_nextToken_8 : decode cX10_nextToken 8 = .ok (.aload_n 0, 1) := by decide +kernel
theorem dX10_nextToken_9 : decode cX10_nextToken 9 = .ok (.aload_n 0, 1) := by decide +kernel
theorem dX10_nextToken_10 : decode cX10_nextToken 10 = .ok (.getfield 75, 3) := by decide +kernel
theorem dX10_nextToken_13 : decode cX10_nextToken 13 = .ok (.invokevirtual 78, 3) := by decide +kernel
theorem dX10_nextToken_16 : decode cX10_nextToken 16 = .ok (.bipush 32, 2) := by decide +kernel
theorem dX10_nextToken_18 : decode cX10_nextToken 18 = .ok (.if_icmp .eq 16, 3) := by decide +kernel
theorem dX10_nextToken_21 : decode cX10_nextToken 21 = .ok (.aload_n 0, 1) := by decide +kernel
theorem dX10_nextToken_22 : decode cX10_nextToken 22 = .ok (.aload_n 0, 1) := by decide +kernel
theorem dX10_nextToken_23 : decode cX10_nextToken 23 = .ok (.getfield 75, 3) := by decide +kernel
theorem dX10_nextToken_26 : decode cX10_nextToken 26 = .ok (.invokevirtual 78, 3) := by decide +kernel
theorem dX10_nextToken_29 : decode cX10_nextToken 29 = .ok (.bipush 10, 2) := by decide +kernel
theorem dX10_nextToken_31 : decode cX10_nextToken 31 = .ok (.if_icmp .ne 16, 3) := by decide +kernel
theorem dX10_nextToken_34 : decode cX10_nextToken 34 = .ok (.aload_n 0, 1) := by decide +kernel
theorem dX10_nextToken_35 : decode cX10_nextToken 35 = .ok (.dup, 1) := by decide +kernel
theorem dX10_nextToken_36 : decode cX10_nextToken 36 = .ok (.getfield 75, 3) := by decide +kernel
theorem dX10_nextToken_39 : decode cX10_nextToken 39 = .ok (.iconst 1, 1) := by decide +kernel
theorem dX10_nextToken_40 : decode cX10_nextToken 40 = .ok (.iadd, 1) := by decide +kernel
theorem dX10_nextToken_41 : decode cX10_nextToken 41 = .ok (.putfield 75, 3) := by decide +kernel
theorem dX10_nextToken_44 : decode cX10_nextToken 44 = .ok (.goto (-36), 3) := by decide +kernel
theorem dX10_nextToken_47 : decode cX10_nextToken 47 = .ok (.aload_n 0, 1) := by decide +kernel
theorem dX10_nextToken_48 : decode cX10_nextToken 48 = .ok (.aload_n 0, 1) := by decide +kernel
theorem dX10_nextToken_49 : decode cX10_nextToken 49 = .ok (.getfield 75, 3) := by decide +kernel
theorem dX10_nextToken_52 : decode cX10_nextToken 52 = .ok (.invokevirtual 78, 3) := by decide +kernel
theorem dX10_nextToken_55 : decode cX10_nextToken 55 = .ok (.istore_n 1, 1) := by decide +kernel
theorem dX10_nextToken_56 : decode cX10_nextToken 56 = .ok (.aload_n 0, 1) := by decide +kernel
theorem dX10_nextToken_57 : decode cX10_nextToken 57 = .ok (.aload_n 0, 1) := by decide +kernel
theorem dX10_nextToken_58 : decode cX10_nextToken 58 = .ok (.getfield 75, 3) := by decide +kernel
theorem dX10_nextToken_61 : decode cX10_nextToken 61 = .ok (.putfield 72, 3) := by decide +kernel
theorem dX10_nextToken_64 : decode cX10_nextToken 64 = .ok (.aload_n 0, 1) := by decide +kernel
theorem dX10_nextToken_65 : decode cX10_nextToken 65 = .ok (.iconst 3, 1) := by decide +kernel
theorem dX10_nextToken_66 : decode cX10_nextToken 66 = .ok (.putfield 82, 3) := by decide +kernel
theorem dX10_nextToken_69 : decode cX10_nextToken 69 = .ok (.iload_n 1, 1) := by decide +kernel
theorem dX10_nextToken_70 : decode cX10_nextToken 70 = .ok (.iconst (-1), 1) := by decide +kernel
theorem dX10_nextToken_71 : decode cX10_nextToken 71 = .ok (.if_icmp .ne 11, 3) := by decide +kernel
theorem dX10_nextToken_74 : decode cX10_nextToken 74 = .ok (.aload_n 0, 1) := by decide +kernel
theorem dX10_nextToken_75 : decode cX10_nextToken 75 = .ok (.iconst 0, 1) := by decide +kernel
theorem dX10_nextToken_76 : decode cX10_nextToken 76 = .ok (.putfield 82, 3) := by decide +kernel
theorem dX10_nextToken_79 : decode cX10_nextToken 79 = .ok (.goto 223, 3) := by decide +kernel
theorem dX10_nextToken_82 : decode cX10_nextToken 82 = .ok (.iload_n 1, 1) := by decide +kernel
theorem dX10_nextToken_83 : decode cX10_nextToken 83 = .ok (.i2l, 1) := by decide +kernel
theorem dX10_nextToken_84 : decode cX10_nextToken 84 = .ok (.ldc2_w 85, 3) := by decide +kernel
theorem dX10_nextToken_87 : decode cX10_nextToken 87 = .ok (.ldc2_w 87, 3) := by decide +kernel
theorem dX10_nextToken_90 : decode cX10_nextToken 90 = .ok (.invokestatic 89, 3) := by decide +kernel
theorem dX10_nextToken_93 : decode cX10_nextToken 93 = .ok (.ifCond .eq 63, 3) := by decide +kernel
theorem dX10_nextToken_96 : decode cX10_nextToken 96 = .ok (.aload_n 0, 1) := by decide +kernel
theorem dX10_nextToken_97 : decode cX10_nextToken 97 = .ok (.aload_n 0, 1) := by decide +kernel
theorem dX10_nextToken_98 : decode cX10_nextToken 98 = .ok (.getfield 72, 3) := by decide +kernel
theorem dX10_nextToken_101 : decode cX10_nextToken 101 = .ok (.invokevirtual 78, 3) := by decide +kernel
theorem dX10_nextToken_104 : decode cX10_nextToken 104 = .ok (.i2l, 1) := by decide +kernel
theorem dX10_nextToken_105 : decode cX10_nextToken 105 = .ok (.ldc2_w 85, 3) := by decide +kernel
theorem dX10_nextToken_108 : decode cX10_nextToken 108 = .ok (.ldc2_w 87, 3) := by decide +kernel
theorem dX10_nextToken_111 : decode cX10_nextToken 111 = .ok (.invokestatic 89, 3) := by decide +kernel
theorem dX10_nextToken_114 : decode cX10_nextToken 114 = .ok (.ifCond .eq 16, 3) := by decide +kernel
theorem dX10_nextToken_117 : decode cX10_nextToken 117 = .ok (.aload_n 0, 1) := by decide +kernel
theorem dX10_nextToken_118 : decode cX10_nextToken 118 = .ok (.dup, 1) := by decide +kernel
theorem dX10_nextToken_119 : decode cX10_nextToken 119 = .ok (.getfield 72, 3) := by decide +kernel
theorem dX10_nextToken_122 : decode cX10_nextToken 122 = .ok (.iconst 1, 1) := by decide +kernel
theorem dX10_nextToken_123 : decode cX10_nextToken 123 = .ok (.iadd, 1) := by decide +kernel
theorem dX10_nextToken_124 : decode cX10_nextToken 124 = .ok (.putfield 72, 3) := by decide +kernel
theorem dX10_nextToken_127 : decode cX10_nextToken 127 = .ok (.goto (-31), 3) := by decide +kernel
theorem dX10_nextToken_130 : decode cX10_nextToken 130 = .ok (.aload_n 0, 1) := by decide +kernel
theorem dX10_nextToken_131 : decode cX10_nextToken 131 = .ok (.aload_n 0, 1) := by decide +kernel
theorem dX10_nextToken_132 : decode cX10_nextToken 132 = .ok (.getfield 72, 3) := by decide +kernel
theorem dX10_nextToken_135 : decode cX10_nextToken 135 = .ok (.aload_n 0, 1) := by decide +kernel
theorem dX10_nextToken_136 : decode cX10_nextToken 136 = .ok (.getfield 75, 3) := by decide +kernel
theorem dX10_nextToken_139 : decode cX10_nextToken 139 = .ok (.isub, 1) := by decide +kernel
theorem dX10_nextToken_140 : decode cX10_nextToken 140 = .ok (.bipush 6, 2) := by decide +kernel
theorem dX10_nextToken_142 : decode cX10_nextToken 142 = .ok (.if_icmp .le 7, 3) := by decide +kernel
theorem dX10_nextToken_145 : decode cX10_nextToken 145 = .ok (.iconst 3, 1) := by decide +kernel
theorem dX10_nextToken_146 : decode cX10_nextToken 146 = .ok (.goto 4, 3) := by decide +kernel
theorem dX10_nextToken_149 : decode cX10_nextToken 149 = .ok (.iconst 1, 1) := by decide +kernel
theorem dX10_nextToken_150 : decode cX10_nextToken 150 = .ok (.putfield 82, 3) := by decide +kernel
theorem dX10_nextToken_153 : decode cX10_nextToken 153 = .ok (.goto 149, 3) := by decide +kernel
theorem dX10_nextToken_156 : decode cX10_nextToken 156 = .ok (.iload_n 1, 1) := by decide +kernel
theorem dX10_nextToken_157 : decode cX10_nextToken 157 = .ok (.i2l, 1) := by decide +kernel
theorem dX10_nextToken_158 : decode cX10_nextToken 158 = .ok (.ldc2_w 93, 3) := by decide +kernel
theorem dX10_nextToken_161 : decode cX10_nextToken 161 = .ok (.ldc2_w 95, 3) := by decide +kernel
theorem dX10_nextToken_164 : decode cX10_nextToken 164 = .ok (.invokestatic 89, 3) := by decide +kernel
theorem dX10_nextToken_167 : decode cX10_nextToken 167 = .ok (.ifCond .eq 110, 3) := by decide +kernel
theorem dX10_nextToken_170 : decode cX10_nextToken 170 = .ok (.aload_n 0, 1) := by decide +kernel
theorem dX10_nextToken_171 : decode cX10_nextToken 171 = .ok (.iconst 0, 1) := by decide +kernel
theorem dX10_nextToken_172 : decode cX10_nextToken 172 = .ok (.putfield 97, 3) := by decide +kernel
theorem dX10_nextToken_175 : decode cX10_nextToken 175 = .ok (.aload_n 0, 1) := by decide +kernel
theorem dX10_nextToken_176 : decode cX10_nextToken 176 = .ok (.aload_n 0, 1) := by decide +kernel
theorem dX10_nextToken_177 : decode cX10_nextToken 177 = .ok (.getfield 72, 3) := by decide +kernel
theorem dX10_nextToken_180 : decode cX10_nextToken 180 = .ok (.invokevirtual 78, 3) := by decide +kernel
theorem dX10_nextToken_183 : decode cX10_nextToken 183 = .ok (.i2l, 1) := by decide +kernel
theorem dX10_nextToken_184 : decode cX10_nextToken 184 = .ok (.ldc2_w 93, 3) := by decide +kernel
theorem dX10_nextToken_187 : decode cX10_nextToken 187 = .ok (.ldc2_w 95, 3) := by decide +kernel
theorem dX10_nextToken_190 : decode cX10_nextToken 190 = .ok (.invokestatic 89, 3) := by decide +kernel
theorem dX10_nextToken_193 : decode cX10_nextToken 193 = .ok (.ifCond .eq 59, 3) := by decide +kernel
theorem dX10_nextToken_196 : decode cX10_nextToken 196 = .ok (.aload_n 0, 1) := by decide +kernel
theorem dX10_nextToken_197 : decode cX10_nextToken 197 = .ok (.aload_n 0, 1) := by decide +kernel
theorem dX10_nextToken_198 : decode cX10_nextToken 198 = .ok (.getfield 72, 3) := by decide +kernel
theorem dX10_nextToken_201 : decode cX10_nextToken 201 = .ok (.aload_n 0, 1) := by decide +kernel
theorem dX10_nextToken_202 : decode cX10_nextToken 202 = .ok (.getfield 75, 3) := by decide +kernel
theorem dX10_nextToken_205 : decode cX10_nextToken 205 = .ok (.isub, 1) := by decide +kernel
theorem dX10_nextToken_206 : decode cX10_nextToken 206 = .ok (.iconst 4, 1) := by decide +kernel
theorem dX10_nextToken_207 : decode cX10_nextToken 207 = .ok (.if_icmp .ge 25, 3) := by decide +kernel
theorem dX10_nextToken_210 : decode cX10_nextToken 210 = .ok (.bipush 10, 2) := by decide +kernel
theorem dX10_nextToken_212 : decode cX10_nextToken 212 = .ok (.aload_n 0, 1) := by decide +kernel
theorem dX10_nextToken_213 : decode cX10_nextToken 213 = .ok (.getfield 97, 3) := by decide +kernel
theorem dX10_nextToken_216 : decode cX10_nextToken 216 = .ok (.imul, 1) := by decide +kernel
theorem dX10_nextToken_217 : decode cX10_nextToken 217 = .ok (.aload_n 0, 1) := by decide +kernel
theorem dX10_nextToken_218 : decode cX10_nextToken 218 = .ok (.aload_n 0, 1) := by decide +kernel
theorem dX10_nextToken_219 : decode cX10_nextToken 219 = .ok (.getfield 72, 3) := by decide +kernel
theorem dX10_nextToken_222 : decode cX10_nextToken 222 = .ok (.invokevirtual 78, 3) := by decide +kernel
theorem dX10_nextToken_225 : decode cX10_nextToken 225 = .ok (.iadd, 1) := by decide +kernel
theorem dX10_nextToken_226 : decode cX10_nextToken 226 = .ok (.bipush 48, 2) := by decide +kernel
theorem dX10_nextToken_228 : decode cX10_nextToken 228 = .ok (.isub, 1) := by decide +kernel
theorem dX10_nextToken_229 : decode cX10_nextToken 229 = .ok (.goto 7, 3) := by decide +kernel
theorem dX10_nextToken_232 : decode cX10_nextToken 232 = .ok (.aload_n 0, 1) := by decide +kernel
theorem dX10_nextToken_233 : decode cX10_nextToken 233 = .ok (.getfield 97, 3) := by decide +kernel
theorem dX10_nextToken_236 : decode cX10_nextToken 236 = .ok (.putfield 97, 3) := by decide +kernel
theorem dX10_nextToken_239 : decode cX10_nextToken 239 = .ok (.aload_n 0, 1) := by decide +kernel
theorem dX10_nextToken_240 : decode cX10_nextToken 240 = .ok (.dup, 1) := by decide +kernel
theorem dX10_nextToken_241 : decode cX10_nextToken 241 = .ok (.getfield 72, 3) := by decide +kernel
theorem dX10_nextToken_244 : decode cX10_nextToken 244 = .ok (.iconst 1, 1) := by decide +kernel
theorem dX10_nextToken_245 : decode cX10_nextToken 245 = .ok (.iadd, 1) := by decide +kernel
theorem dX10_nextToken_246 : decode cX10_nextToken 246 = .ok (.putfield 72, 3) := by decide +kernel
theorem dX10_nextToken_249 : decode cX10_nextToken 249 = .ok (.goto (-74), 3) := by decide +kernel
theorem dX10_nextToken_252 : decode cX10_nextToken 252 = .ok (.aload_n 0, 1) := by decide +kernel
theorem dX10_nextToken_253 : decode cX10_nextToken 253 = .ok (.aload_n 0, 1) := by decide +kernel
theorem dX10_nextToken_254 : decode cX10_nextToken 254 = .ok (.getfield 72, 3) := by decide +kernel
theorem dX10_nextToken_257 : decode cX10_nextToken 257 = .ok (.aload_n 0, 1) := by decide +kernel
theorem dX10_nextToken_258 : decode cX10_nextToken 258 = .ok (.getfield 75, 3) := by decide +kernel
theorem dX10_nextToken_261 : decode cX10_nextToken 261 = .ok (.isub, 1) := by decide +kernel
theorem dX10_nextToken_262 : decode cX10_nextToken 262 = .ok (.iconst 4, 1) := by decide +kernel
theorem dX10_nextToken_263 : decode cX10_nextToken 263 = .ok (.if_icmp .le 7, 3) := by decide +kernel
theorem dX10_nextToken_266 : decode cX10_nextToken 266 = .ok (.iconst 3, 1) := by decide +kernel
theorem dX10_nextToken_267 : decode cX10_nextToken 267 = .ok (.goto 4, 3) := by decide +kernel
theorem dX10_nextToken_270 : decode cX10_nextToken 270 = .ok (.iconst 2, 1) := by decide +kernel
theorem dX10_nextToken_271 : decode cX10_nextToken 271 = .ok (.putfield 82, 3) := by decide +kernel
theorem dX10_nextToken_274 : decode cX10_nextToken 274 = .ok (.goto 28, 3) := by decide +kernel
theorem dX10_nextToken_277 : decode cX10_nextToken 277 = .ok (.aload_n 0, 1) := by decide +kernel
theorem dX10_nextToken_278 : decode cX10_nextToken 278 = .ok (.dup, 1) := by decide +kernel
theorem dX10_nextToken_279 : decode cX10_nextToken 279 = .ok (.getfield 72, 3) := by decide +kernel
theorem dX10_nextToken_282 : decode cX10_nextToken 282 = .ok (.iconst 1, 1) := by decide +kernel
theorem dX10_nextToken_283 : decode cX10_nextToken 283 = .ok (.iadd, 1) := by decide +kernel
theorem dX10_nextToken_284 : decode cX10_nextToken 284 = .ok (.putfield 72, 3) := by decide +kernel
theorem dX10_nextToken_287 : decode cX10_nextToken 287 = .ok (.aload_n 0, 1) := by decide +kernel
theorem dX10_nextToken_288 : decode cX10_nextToken 288 = .ok (.iload_n 1, 1) := by decide +kernel
theorem dX10_nextToken_289 : decode cX10_nextToken 289 = .ok (.bipush 59, 2) := by decide +kernel
theorem dX10_nextToken_291 : decode cX10_nextToken 291 = .ok (.if_icmp .ne 7, 3) := by decide +kernel
theorem dX10_nextToken_294 : decode cX10_nextToken 294 = .ok (.iload_n 1, 1) := by decide +kernel
theorem dX10_nextToken_295 : decode cX10_nextToken 295 = .ok (.goto 4, 3) := by decide +kernel
theorem dX10_nextToken_298 : decode cX10_nextToken 298 = .ok (.iconst 3, 1) := by decide +kernel
theorem dX10_nextToken_299 : decode cX10_nextToken 299 = .ok (.putfield 82, 3) := by decide +kernel
theorem dX10_nextToken_302 : decode cX10_nextToken 302 = .ok (.return_, 1) := by decide +kernel
def fn_X10_nextToken_34 (N : Nat) (K8 : Mem → Nat → Option (Unit × Mem)) (M : Mem) (a0 : Nat) : Option (Unit × Mem) :=
  (mm_gI M a0 10 4).bind fun v1 =>
  (mm_pV M a0 10 4 (.int (v1 + 1))).bind fun M2 =>
  K8 M2 a0
set_option maxRecDepth 100000 in
set_option maxHeartbeats 4000000 in
theorem bk_X10_nextToken_34 {Γ : Gm} {ω : Wd} {k N : Nat} {r : Unit} {M' : Mem} (C : Cx Γ cX10_nextToken 2 RX10 ω 1 0 0) (hr : Γ.meth.sig.returnType = none) {K8 : Mem → Nat → Option (Unit × Mem)} (hK8 : ∀ (M : Mem) (a0 : Nat), K8 M a0 = some (r, M') → JJ Γ (QF Γ ω k 0 0 none M') 2 ω k M 0 0 8 [(0, .ref a0)] []) (M : Mem) (a0 : Nat) (h : fn_X10_nextToken_34 N K8 M a0 = some (r, M')) : JJ Γ (QF Γ ω k 0 0 none M') 2 ω k M 0 0 34 [(0, .ref a0)] [] := by
  unfold fn_X10_nextToken_34 at h
  refine jv_aload_n C dX10_nextToken_34 rfl 0 rfl ?_
  refine jv_dup C dX10_nextToken_35 rfl ?_
  refine jv_getI C fa_X10_75 dX10_nextToken_36 h (fun v1 h => ?_)
  refine jv_iconst (v := 1) C dX10_nextToken_39 (by decide) ?_
  refine jv_iadd C dX10_nextToken_40 ?_
  refine jv_putI C fp_X10_75 dX10_nextToken_41 h (fun M2 h => ?_)
  refine jv_goto (tgt := 8) C dX10_nextToken_44 (by decide) ?_
  exact hK8 _ _ h
def fn_X10_nextToken_236 (N : Nat) (K175 : Mem → Nat → Option (Unit × Mem)) (M : Mem) (a0 : Nat) (s0 : Int32) (s1 : Nat) : Option (Unit × Mem) :=
  (mm_pV M s1 10 7 (.int s0)).bind fun M1 =>
  (mm_gI M1 a0 10 5).bind fun v2 =>
  (mm_pV M1 a0 10 5 (.int (v2 + 1))).bind fun M3 =>
  K175 M3 a0
set_option maxRecDepth 100000 in
set_option maxHeartbeats 4000000 in
theorem bk_X10_nextToken_236 {Γ : Gm} {ω : Wd} {k N : Nat} {r : Unit} {M' : Mem} (C : Cx Γ cX10_nextToken 2 RX10 ω 1 0 0) (hr : Γ.meth.sig.returnType = none) {K175 : Mem → Nat → Option (Unit × Mem)} (hK175 : ∀ (M : Mem) (a0 : Nat), K175 M a0 = some (r, M') → JJ Γ (QF Γ ω k 0 0 none M') 2 ω k M 0 0 175 [(0, .ref a0)] []) (M : Mem) (a0 : Nat) (s0 : Int32) (s1 : Nat) (h : fn_X10_nextToken_236 N K175 M a0 s0 s1 = some (r, M')) : JJ Γ (QF Γ ω k 0 0 none M') 2 ω k M 0 0 236 [(0, .ref a0)] [.int s0, .ref s1] := by
  unfold fn_X10_nextToken_236 at h
  refine jv_putI C fp_X10_97 dX10_nextToken_236 h (fun M1 h => ?_)
  refine jv_aload_n C dX10_nextToken_239 rfl 0 rfl ?_
  refine jv_dup C dX10_nextToken_240 rfl ?_
  refine jv_getI C fa_X10_72 dX10_nextToken_241 h (fun v2 h => ?_)
  refine jv_iconst (v := 1) C dX10_nextToken_244 (by decide) ?_
  refine jv_iadd C dX10_nextToken_245 ?_
  refine jv_putI C fp_X10_72 dX10_nextToken_246 h (fun M3 h => ?_)
  refine jv_goto (tgt := 175) C dX10_nextToken_249 (by decide) ?_
  exact hK175 _ _ h
def fn_X10_nextToken_175 (N : Nat) : Nat → Mem → Nat → Option (Unit × Mem)
  | 0, _, _ => none
  | n + 1, M, a0 =>
    (mm_gI M a0 10 5).bind fun v1 =>
    (mm_ck M a0 10).bind fun _ => mm_b2 (fn_X10_byteAt N M a0 v1) fun v3 M2 =>
    mm_b2 (fn_X10_within N M2 ((Int32.toInt64 v3)) 48 57) fun v5 M4 =>
    if v5 = 0 then
      (mm_gI M4 a0 10 5).bind fun v6 =>
      (mm_gI M4 a0 10 4).bind fun v7 =>
      if (v6 - v7) ≤ 4 then
        (mm_pV M4 a0 10 6 (.int 2)).bind fun M8 =>
        some ((), M8)
      else
        (mm_pV M4 a0 10 6 (.int 3)).bind fun M9 =>
        some ((), M9)
    else
      (mm_gI M4 a0 10 5).bind fun v10 =>
      (mm_gI M4 a0 10 4).bind fun v11 =>
      if 4 ≤ (v10 - v11) then
        (mm_gI M4 a0 10 7).bind fun v12 =>
        fn_X10_nextToken_236 N (fn_X10_nextToken_175 N n) M4 a0 v12 a0
      else
        (mm_gI M4 a0 10 7).bind fun v13 =>
        (mm_gI M4 a0 10 5).bind fun v14 =>
        (mm_ck M4 a0 10).bind fun _ => mm_b2 (fn_X10_byteAt N M4 a0 v14) fun v16 M15 =>
        fn_X10_nextToken_236 N (fn_X10_nextToken_175 N n) M15 a0 ((((10 * v13) + v16) - 48)) a0
set_option maxRecDepth 100000 in
set_option maxHeartbeats 4000000 in
theorem bk_X10_nextToken_175 {Γ : Gm} {ω : Wd} {k N : Nat} {r : Unit} {M' : Mem} (C : Cx Γ cX10_nextToken 2 RX10 ω 1 0 0) (hr : Γ.meth.sig.returnType = none) : ∀ (n : Nat) (M : Mem) (a0 : Nat), fn_X10_nextToken_175 N n M a0 = some (r, M') → JJ Γ (QF Γ ω k 0 0 none M') 2 ω k M 0 0 175 [(0, .ref a0)] [] := by
  intro n
  induction n with
  | zero => intro M a0 h; exact jv_no h
  | succ n ih =>
    intro M a0 h
    rw [fn_X10_nextToken_175.eq_2] at h
    refine jv_aload_n C dX10_nextToken_175 rfl 0 rfl ?_
    refine jv_aload_n C dX10_nextToken_176 rfl 0 rfl ?_
    refine jv_getI C fa_X10_72 dX10_nextToken_177 h (fun v1 h => ?_)
    refine jv_vI0 (As := [.int v1]) C lk_X10_78 rfl dX10_nextToken_180 rfl rfl (by decide) (by decide) (by decide) (Nat.le_of_ble_eq_true rfl) h (fun _ _ h => ct_X10_byteAt h) (fun v3 M2 h => ?_)
    refine jv_i2l C dX10_nextToken_183 ?_
    refine jv_ldc2 C gw_1470 dX10_nextToken_184 ?_
    refine jv_ldc2 C gw_1471 dX10_nextToken_187 ?_
    refine jv_sI0 (As := [.long (Int32.toInt64 v3), .long 48, .long 57]) C lk_X10_89 dX10_nextToken_190 rfl rfl (by decide) (by decide) (by decide) (Nat.le_of_ble_eq_true rfl) h (fun _ _ h => ct_X10_within h) (fun v5 M4 h => ?_)
    refine jv_if_eq (tgt := 252) C dX10_nextToken_193 (by decide) h (fun h => ?_) (fun h => ?_)
    · refine jv_aload_n C dX10_nextToken_252 rfl 0 rfl ?_
      refine jv_aload_n C dX10_nextToken_253 rfl 0 rfl ?_
      refine jv_getI C fa_X10_72 dX10_nextToken_254 h (fun v6 h => ?_)
      refine jv_aload_n C dX10_nextToken_257 rfl 0 rfl ?_
      refine jv_getI C fa_X10_75 dX10_nextToken_258 h (fun v7 h => ?_)
      refine jv_isub C dX10_nextToken_261 ?_
      refine jv_iconst (v := 4) C dX10_nextToken_262 (by decide) ?_
      refine jv_icmp_le (tgt := 270) C dX10_nextToken_263 (by decide) h (fun h => ?_) (fun h => ?_)
      · refine jv_iconst (v := 2) C dX10_nextToken_270 (by decide) ?_
        refine jv_putI C fp_X10_82 dX10_nextToken_271 h (fun M8 h => ?_)
        refine jv_goto (tgt := 302) C dX10_nextToken_274 (by decide) ?_
        exact jv_vret C hr dX10_nextToken_302 h
      · refine jv_iconst (v := 3) C dX10_nextToken_266 (by decide) ?_
        refine jv_goto (tgt := 271) C dX10_nextToken_267 (by decide) ?_
        refine jv_putI C fp_X10_82 dX10_nextToken_271 h (fun M9 h => ?_)
        refine jv_goto (tgt := 302) C dX10_nextToken_274 (by decide) ?_
        exact jv_vret C hr dX10_nextToken_302 h
    · refine jv_aload_n C dX10_nextToken_196 rfl 0 rfl ?_
      refine jv_aload_n C dX10_nextToken_197 rfl 0 rfl ?_
      refine jv_getI C fa_X10_72 dX10_nextToken_198 h (fun v10 h => ?_)
      refine jv_aload_n C dX10_nextToken_201 rfl 0 rfl ?_
      refine jv_getI C fa_X10_75 dX10_nextToken_202 h (fun v11 h => ?_)
      refine jv_isub C dX10_nextToken_205 ?_
      refine jv_iconst (v := 4) C dX10_nextToken_206 (by decide) ?_
      refine jv_icmp_ge (tgt := 232) C dX10_nextToken_207 (by decide) h (fun h => ?_) (fun h => ?_)
      · refine jv_aload_n C dX10_nextToken_232 rfl 0 rfl ?_
        refine jv_getI C fa_X10_97 dX10_nextToken_233 h (fun v12 h => ?_)
        exact bk_X10_nextToken_236 C hr ih _ _ _ _ h
      · refine jv_bipush (v := 10) C dX10_nextToken_210 (by decide) ?_
        refine jv_aload_n C dX10_nextToken_212 rfl 0 rfl ?_
        refine jv_getI C fa_X10_97 dX10_nextToken_213 h (fun v13 h => ?_)
        refine jv_imul C dX10_nextToken_216 ?_
        refine jv_aload_n C dX10_nextToken_217 rfl 0 rfl ?_
        refine jv_aload_n C dX10_nextToken_218 rfl 0 rfl ?_
        refine jv_getI C fa_X10_72 dX10_nextToken_219 h (fun v14 h => ?_)
        refine jv_vI0 (As := [.int v14]) C lk_X10_78 rfl dX10_nextToken_222 rfl rfl (by decide) (by decide) (by decide) (Nat.le_of_ble_eq_true rfl) h (fun _ _ h => ct_X10_byteAt h) (fun v16 M15 h => ?_)
        refine jv_iadd C dX10_nextToken_225 ?_
        refine jv_bipush (v := 48) C dX10_nextToken_226 (by decide) ?_
        refine jv_isub C dX10_nextToken_228 ?_
        refine jv_goto (tgt := 236) C dX10_nextToken_229 (by decide) ?_
        exact bk_X10_nextToken_236 C hr ih _ _ _ _ h
def fn_X10_nextToken_96 (N : Nat) : Nat → Mem → Nat → Option (Unit × Mem)
  | 0, _, _ => none
  | n + 1, M, a0 =>
    (mm_gI M a0 10 5).bind fun v1 =>
    (mm_ck M a0 10).bind fun _ => mm_b2 (fn_X10_byteAt N M a0 v1) fun v3 M2 =>
    mm_b2 (fn_X10_within N M2 ((Int32.toInt64 v3)) 97 122) fun v5 M4 =>
    if v5 = 0 then
      (mm_gI M4 a0 10 5).bind fun v6 =>
      (mm_gI M4 a0 10 4).bind fun v7 =>
      if (v6 - v7) ≤ 6 then
        (mm_pV M4 a0 10 6 (.int 1)).bind fun M8 =>
        some ((), M8)
      else
        (mm_pV M4 a0 10 6 (.int 3)).bind fun M9 =>
        some ((), M9)
    else
      (mm_gI M4 a0 10 5).bind fun v10 =>
      (mm_pV M4 a0 10 5 (.int (v10 + 1))).bind fun M11 =>
      fn_X10_nextToken_96 N n M11 a0
set_option maxRecDepth 100000 in
set_option maxHeartbeats 4000000 in
theorem bk_X10_nextToken_96 {Γ : Gm} {ω : Wd} {k N : Nat} {r : Unit} {M' : Mem} (C : Cx Γ cX10_nextToken 2 RX10 ω 1 0 0) (hr : Γ.meth.sig.returnType = none) : ∀ (n : Nat) (M : Mem) (a0 : Nat), fn_X10_nextToken_96 N n M a0 = some (r, M') → JJ Γ (QF Γ ω k 0 0 none M') 2 ω k M 0 0 96 [(0, .ref a0)] [] := by
  intro n
  induction n with
  | zero => intro M a0 h; exact jv_no h
  | succ n ih =>
    intro M a0 h
    rw [fn_X10_nextToken_96.eq_2] at h
    refine jv_aload_n C dX10_nextToken_96 rfl 0 rfl ?_
    refine jv_aload_n C dX10_nextToken_97 rfl 0 rfl ?_
    refine jv_getI C fa_X10_72 dX10_nextToken_98 h (fun v1 h => ?_)
    refine jv_vI0 (As := [.int v1]) C lk_X10_78 rfl dX10_nextToken_101 rfl rfl (by decide) (by decide) (by decide) (Nat.le_of_ble_eq_true rfl) h (fun _ _ h => ct_X10_byteAt h) (fun v3 M2 h => ?_)
    refine jv_i2l C dX10_nextToken_104 ?_
    refine jv_ldc2 C gw_1468 dX10_nextToken_105 ?_
    refine jv_ldc2 C gw_1469 dX10_nextToken_108 ?_
    refine jv_sI0 (As := [.long (Int32.toInt64 v3), .long 97, .long 122]) C lk_X10_89 dX10_nextToken_111 rfl rfl (by decide) (by decide) (by decide) (Nat.le_of_ble_eq_true rfl) h (fun _ _ h => ct_X10_within h) (fun v5 M4 h => ?_)
    refine jv_if_eq (tgt := 130) C dX10_nextToken_114 (by decide) h (fun h => ?_) (fun h => ?_)
    · refine jv_aload_n C dX10_nextToken_130 rfl 0 rfl ?_
      refine jv_aload_n C dX10_nextToken_131 rfl 0 rfl ?_
      refine jv_getI C fa_X10_72 dX10_nextToken_132 h (fun v6 h => ?_)
      refine jv_aload_n C dX10_nextToken_135 rfl 0 rfl ?_
      refine jv_getI C fa_X10_75 dX10_nextToken_136 h (fun v7 h => ?_)
      refine jv_isub C dX10_nextToken_139 ?_
      refine jv_bipush (v := 6) C dX10_nextToken_140 (by decide) ?_
      refine jv_icmp_le (tgt := 149) C dX10_nextToken_142 (by decide) h (fun h => ?_) (fun h => ?_)
      · refine jv_iconst (v := 1) C dX10_nextToken_149 (by decide) ?_
        refine jv_putI C fp_X10_82 dX10_nextToken_150 h (fun M8 h => ?_)
        refine jv_goto (tgt := 302) C dX10_nextToken_153 (by decide) ?_
        exact jv_vret C hr dX10_nextToken_302 h
      · refine jv_iconst (v := 3) C dX10_nextToken_145 (by decide) ?_
        refine jv_goto (tgt := 150) C dX10_nextToken_146 (by decide) ?_
        refine jv_putI C fp_X10_82 dX10_nextToken_150 h (fun M9 h => ?_)
        refine jv_goto (tgt := 302) C dX10_nextToken_153 (by decide) ?_
        exact jv_vret C hr dX10_nextToken_302 h
    · refine jv_aload_n C dX10_nextToken_117 rfl 0 rfl ?_
      refine jv_dup C dX10_nextToken_118 rfl ?_
      refine jv_getI C fa_X10_72 dX10_nextToken_119 h (fun v10 h => ?_)
      refine jv_iconst (v := 1) C dX10_nextToken_122 (by decide) ?_
      refine jv_iadd C dX10_nextToken_123 ?_
      refine jv_putI C fp_X10_72 dX10_nextToken_124 h (fun M11 h => ?_)
      refine jv_goto (tgt := 96) C dX10_nextToken_127 (by decide) ?_
      exact ih _ _ h
def fn_X10_nextToken_8 (N : Nat) : Nat → Mem → Nat → Option (Unit × Mem)
  | 0, _, _ => none
  | n + 1, M, a0 =>
    (mm_gI M a0 10 4).bind fun v1 =>
    (mm_ck M a0 10).bind fun _ => mm_b2 (fn_X10_byteAt N M a0 v1) fun v3 M2 =>
    if v3 = 32 then
      fn_X10_nextToken_34 N (fn_X10_nextToken_8 N n) M2 a0
    else
      (mm_gI M2 a0 10 4).bind fun v4 =>
      (mm_ck M2 a0 10).bind fun _ => mm_b2 (fn_X10_byteAt N M2 a0 v4) fun v6 M5 =>
      if v6 = 10 then
        fn_X10_nextToken_34 N (fn_X10_nextToken_8 N n) M5 a0
      else
        (mm_gI M5 a0 10 4).bind fun v7 =>
        (mm_ck M5 a0 10).bind fun _ => mm_b2 (fn_X10_byteAt N M5 a0 v7) fun v9 M8 =>
        (mm_gI M8 a0 10 4).bind fun v10 =>
        (mm_pV M8 a0 10 5 (.int v10)).bind fun M11 =>
        (mm_pV M11 a0 10 6 (.int 3)).bind fun M12 =>
        if v9 = (-1) then
          (mm_pV M12 a0 10 6 (.int 0)).bind fun M22 =>
          some ((), M22)
        else
          mm_b2 (fn_X10_within N M12 ((Int32.toInt64 v9)) 97 122) fun v14 M13 =>
          if v14 = 0 then
            mm_b2 (fn_X10_within N M13 ((Int32.toInt64 v9)) 48 57) fun v16 M15 =>
            if v16 = 0 then
              (mm_gI M15 a0 10 5).bind fun v17 =>
              (mm_pV M15 a0 10 5 (.int (v17 + 1))).bind fun M18 =>
              if v9 = 59 then
                (mm_pV M18 a0 10 6 (.int v9)).bind fun M20 =>
                some ((), M20)
              else
                (mm_pV M18 a0 10 6 (.int 3)).bind fun M19 =>
                some ((), M19)
            else
              (mm_pV M15 a0 10 7 (.int 0)).bind fun M21 =>
              fn_X10_nextToken_175 N N M21 a0
          else
            fn_X10_nextToken_96 N N M13 a0
set_option maxRecDepth 100000 in
set_option maxHeartbeats 4000000 in
theorem bk_X10_nextToken_8 {Γ : Gm} {ω : Wd} {k N : Nat} {r : Unit} {M' : Mem} (C : Cx Γ cX10_nextToken 2 RX10 ω 1 0 0) (hr : Γ.meth.sig.returnType = none) : ∀ (n : Nat) (M : Mem) (a0 : Nat), fn_X10_nextToken_8 N n M a0 = some (r, M') → JJ Γ (QF Γ ω k 0 0 none M') 2 ω k M 0 0 8 [(0, .ref a0)] [] := by
  intro n
  induction n with
  | zero => intro M a0 h; exact jv_no h
  | succ n ih =>
    intro M a0 h
    rw [fn_X10_nextToken_8.eq_2] at h
    refine jv_aload_n C dX10_nextToken_8 rfl 0 rfl ?_
    refine jv_aload_n C dX10_nextToken_9 rfl 0 rfl ?_
    refine jv_getI C fa_X10_75 dX10_nextToken_10 h (fun v1 h => ?_)
    refine jv_vI0 (As := [.int v1]) C lk_X10_78 rfl dX10_nextToken_13 rfl rfl (by decide) (by decide) (by decide) (Nat.le_of_ble_eq_true rfl) h (fun _ _ h => ct_X10_byteAt h) (fun v3 M2 h => ?_)
    refine jv_bipush (v := 32) C dX10_nextToken_16 (by decide) ?_
    refine jv_icmp_eq (tgt := 34) C dX10_nextToken_18 (by decide) h (fun h => ?_) (fun h => ?_)
    · exact bk_X10_nextToken_34 C hr ih _ _ h
    · refine jv_aload_n C dX10_nextToken_21 rfl 0 rfl ?_
      refine jv_aload_n C dX10_nextToken_22 rfl 0 rfl ?_
      refine jv_getI C fa_X10_75 dX10_nextToken_23 h (fun v4 h => ?_)
      refine jv_vI0 (As := [.int v4]) C lk_X10_78 rfl dX10_nextToken_26 rfl rfl (by decide) (by decide) (by decide) (Nat.le_of_ble_eq_true rfl) h (fun _ _ h => ct_X10_byteAt h) (fun v6 M5 h => ?_)
      refine jv_bipush (v := 10) C dX10_nextToken_29 (by decide) ?_
      refine jv_icmp_ne (tgt := 47) C dX10_nextToken_31 (by decide) h (fun h => ?_) (fun h => ?_)
      · refine jv_aload_n C dX10_nextToken_47 rfl 0 rfl ?_
        refine jv_aload_n C dX10_nextToken_48 rfl 0 rfl ?_
        refine jv_getI C fa_X10_75 dX10_nextToken_49 h (fun v7 h => ?_)
        refine jv_vI0 (As := [.int v7]) C lk_X10_78 rfl dX10_nextToken_52 rfl rfl (by decide) (by decide) (by decide) (Nat.le_of_ble_eq_true rfl) h (fun _ _ h => ct_X10_byteAt h) (fun v9 M8 h => ?_)
        refine jv_istore_n (lv' := [(1, .int v9), (0, .ref a0)]) C dX10_nextToken_55 rfl (by decide) rfl ?_
        refine jv_aload_n C dX10_nextToken_56 rfl 1 rfl ?_
        refine jv_aload_n C dX10_nextToken_57 rfl 1 rfl ?_
        refine jv_getI C fa_X10_75 dX10_nextToken_58 h (fun v10 h => ?_)
        refine jv_putI C fp_X10_72 dX10_nextToken_61 h (fun M11 h => ?_)
        refine jv_aload_n C dX10_nextToken_64 rfl 1 rfl ?_
        refine jv_iconst (v := 3) C dX10_nextToken_65 (by decide) ?_
        refine jv_putI C fp_X10_82 dX10_nextToken_66 h (fun M12 h => ?_)
        refine jv_iload_n C dX10_nextToken_69 rfl 0 rfl ?_
        refine jv_iconst (v := (-1)) C dX10_nextToken_70 (by decide) ?_
        refine jv_icmp_ne (tgt := 82) C dX10_nextToken_71 (by decide) h (fun h => ?_) (fun h => ?_)
        · refine jv_iload_n C dX10_nextToken_82 rfl 0 rfl ?_
          refine jv_i2l C dX10_nextToken_83 ?_
          refine jv_ldc2 C gw_1468 dX10_nextToken_84 ?_
          refine jv_ldc2 C gw_1469 dX10_nextToken_87 ?_
          refine jv_sI0 (As := [.long (Int32.toInt64 v9), .long 97, .long 122]) C lk_X10_89 dX10_nextToken_90 rfl rfl (by decide) (by decide) (by decide) (Nat.le_of_ble_eq_true rfl) h (fun _ _ h => ct_X10_within h) (fun v14 M13 h => ?_)
          refine jv_if_eq (tgt := 156) C dX10_nextToken_93 (by decide) h (fun h => ?_) (fun h => ?_)
          · refine jv_iload_n C dX10_nextToken_156 rfl 0 rfl ?_
            refine jv_i2l C dX10_nextToken_157 ?_
            refine jv_ldc2 C gw_1470 dX10_nextToken_158 ?_
            refine jv_ldc2 C gw_1471 dX10_nextToken_161 ?_
            refine jv_sI0 (As := [.long (Int32.toInt64 v9), .long 48, .long 57]) C lk_X10_89 dX10_nextToken_164 rfl rfl (by decide) (by decide) (by decide) (Nat.le_of_ble_eq_true rfl) h (fun _ _ h => ct_X10_within h) (fun v16 M15 h => ?_)
            refine jv_if_eq (tgt := 277) C dX10_nextToken_167 (by decide) h (fun h => ?_) (fun h => ?_)
            · refine jv_aload_n C dX10_nextToken_277 rfl 1 rfl ?_
              refine jv_dup C dX10_nextToken_278 rfl ?_
              refine jv_getI C fa_X10_72 dX10_nextToken_279 h (fun v17 h => ?_)
              refine jv_iconst (v := 1) C dX10_nextToken_282 (by decide) ?_
              refine jv_iadd C dX10_nextToken_283 ?_
              refine jv_putI C fp_X10_72 dX10_nextToken_284 h (fun M18 h => ?_)
              refine jv_aload_n C dX10_nextToken_287 rfl 1 rfl ?_
              refine jv_iload_n C dX10_nextToken_288 rfl 0 rfl ?_
              refine jv_bipush (v := 59) C dX10_nextToken_289 (by decide) ?_
              refine jv_icmp_ne (tgt := 298) C dX10_nextToken_291 (by decide) h (fun h => ?_) (fun h => ?_)
              · refine jv_iconst (v := 3) C dX10_nextToken_298 (by decide) ?_
                refine jv_putI C fp_X10_82 dX10_nextToken_299 h (fun M19 h => ?_)
                exact jv_vret C hr dX10_nextToken_302 h
              · refine jv_iload_n C dX10_nextToken_294 rfl 0 rfl ?_
                refine jv_goto (tgt := 299) C dX10_nextToken_295 (by decide) ?_
                refine jv_putI C fp_X10_82 dX10_nextToken_299 h (fun M20 h => ?_)
                exact jv_vret C hr dX10_nextToken_302 h
            · refine jv_aload_n C dX10_nextToken_170 rfl 1 rfl ?_
              refine jv_iconst (v := 0) C dX10_nextToken_171 (by decide) ?_
              refine jv_putI C fp_X10_97 dX10_nextToken_172 h (fun M21 h => ?_)
              refine jv_sub [1] rfl ?_
              exact bk_X10_nextToken_175 C hr _ _ _ h
          · refine jv_sub [1] rfl ?_
            exact bk_X10_nextToken_96 C hr _ _ _ h
        · refine jv_aload_n C dX10_nextToken_74 rfl 1 rfl ?_
          refine jv_iconst (v := 0) C dX10_nextToken_75 (by decide) ?_
          refine jv_putI C fp_X10_82 dX10_nextToken_76 h (fun M22 h => ?_)
          refine jv_goto (tgt := 302) C dX10_nextToken_79 (by decide) ?_
          exact jv_vret C hr dX10_nextToken_302 h
      · exact bk_X10_nextToken_34 C hr ih _ _ h
def fn_X10_nextToken (N : Nat) (M : Mem) (a0 : Nat) : Option (Unit × Mem) :=
  (mm_gI M a0 10 5).bind fun v1 =>
  (mm_pV M a0 10 4 (.int v1)).bind fun M2 =>
  fn_X10_nextToken_8 N N M2 a0
set_option maxRecDepth 100000 in
set_option maxHeartbeats 4000000 in
theorem ct_X10_nextToken {l : Launch} {ω : Wd} {k N : Nat} {M : Mem} {a0 : Nat} {r : Unit} {M' : Mem} (h : fn_X10_nextToken N M a0 = some (r, M')) : CM l ω k yX10_nextToken cX10_nextToken 2 none 1 0 0 [.ref a0] M none M' := by
  refine CM.of (by decide) (Nat.le_of_ble_eq_true rfl) fun Γ hl C hr hi => ?_
  subst hl
  unfold fn_X10_nextToken at h
  refine jv_aload_n C dX10_nextToken_0 rfl 0 rfl ?_
  refine jv_aload_n C dX10_nextToken_1 rfl 0 rfl ?_
  refine jv_getI C fa_X10_72 dX10_nextToken_2 h (fun v1 h => ?_)
  refine jv_putI C fp_X10_75 dX10_nextToken_5 h (fun M2 h => ?_)
  exact bk_X10_nextToken_8 C hr _ _ _ h
theorem dX10_number_0 : decode cX10_number 0 = .ok (.aload_n 0, 1) := by decide +kernel
theorem dX10_number_1 : decode cX10_number 1 = .ok (.aload_n 0, 1) := by decide +kernel
theorem dX10_number_2 : decode cX10_number 2 = .ok (.getfield 82, 3) := by decide +kernel
theorem dX10_number_5 : decode cX10_number 5 = .ok (.iconst 2, 1) := by decide +kernel
theorem dX10_number_6 : decode cX10_number 6 = .ok (.if_icmp .ne 7, 3) := by decide +kernel
theorem dX10_number_9 : decode cX10_number 9 = .ok (.iconst 1, 1) := by decide +kernel
theorem dX10_number_10 : decode cX10_number 10 = .ok (.goto 4, 3) := by decide +kernel
theorem dX10_number_13 : decode cX10_number 13 = .ok (.iconst 0, 1) := by decide +kernel
theorem dX10_number_14 : decode cX10_number 14 = .ok (.iconst 1, 1) := by decide +kernel
theorem dX10_number_15 : decode cX10_number 15 = .ok (.invokevirtual 115, 3) := by decide +kernel
theorem dX10_number_18 : decode cX10_number 18 = .ok (.ifCond .eq 23, 3) := by decide +kernel
theorem dX10_number_21 : decode cX10_number 21 = .ok (.aload_n 0, 1) := by decide +kernel
theorem dX10_number_22 : decode cX10_number 22 = .ok (.aload_n 0, 1) := by decide +kernel
theorem dX10_number_23 : decode cX10_number 23 = .ok (.getfield 97, 3) := by decide +kernel
theorem dX10_number_26 : decode cX10_number 26 = .ok (.i2l, 1) := by decide +kernel
theorem dX10_number_27 : decode cX10_number 27 = .ok (.iload_n 1, 1) := by decide +kernel
theorem dX10_number_28 : decode cX10_number 28 = .ok (.i2l, 1) := by decide +kernel
theorem dX10_number_29 : decode cX10_number 29 = .ok (.iload_n 2, 1) := by decide +kernel
theorem dX10_number_30 : decode cX10_number 30 = .ok (.i2l, 1) := by decide +kernel
theorem dX10_number_31 : decode cX10_number 31 = .ok (.invokestatic 89, 3) := by decide +kernel
theorem dX10_number_34 : decode cX10_number 34 = .ok (.iconst 2, 1) := by decide +kernel
theorem dX10_number_35 : decode cX10_number 35 = .ok (.invokevirtual 115, 3) := by decide +kernel
theorem dX10_number_38 : decode cX10_number 38 = .ok (.ifCond .ne 5, 3) := by decide +kernel
theorem dX10_number_41 : decode cX10_number 41 = .ok (.iconst 0, 1) := by decide +kernel
theorem dX10_number_42 : decode cX10_number 42 = .ok (.ireturn, 1) := by decide +kernel
theorem dX10_number_43 : decode cX10_number 43 = .ok (.aload_n 0, 1) := by decide +kernel
theorem dX10_number_44 : decode cX10_number 44 = .ok (.getfield 97, 3) := by decide +kernel
theorem dX10_number_47 : decode cX10_number 47 = .ok (.istore_n 3, 1) := by decide +kernel
theorem dX10_number_48 : decode cX10_number 48 = .ok (.aload_n 0, 1) := by decide +kernel
theorem dX10_number_49 : decode cX10_number 49 = .ok (.invokevirtual 119, 3) := by decide +kernel
theorem dX10_number_52 : decode cX10_number 52 = .ok (.iload_n 3, 1) := by decide +kernel
theorem dX10_number_53 : decode cX10_number 53 = .ok (.ireturn, 1) := by decide +kernel
def fn_X10_number_14 (N : Nat) (M : Mem) (a0 : Nat) (x1 : Int32) (x2 : Int32) (s0 : Int32) (s1 : Nat) : Option (Int32 × Mem) :=
  (mm_ck M s1 10).bind fun _ => mm_b2 (fn_X10_must N M s1 s0 1) fun v2 M1 =>
  if v2 = 0 then
    some (0, M1)
  else
    (mm_gI M1 a0 10 7).bind fun v3 =>
    mm_b2 (fn_X10_within N M1 ((Int32.toInt64 v3)) ((Int32.toInt64 x1)) ((Int32.toInt64 x2))) fun v5 M4 =>
    (mm_ck M4 a0 10).bind fun _ => mm_b2 (fn_X10_must N M4 a0 v5 2) fun v7 M6 =>
    if v7 = 0 then
      some (0, M6)
    else
      (mm_gI M6 a0 10 7).bind fun v8 =>
      (mm_ck M6 a0 10).bind fun _ => mm_b2 (fn_X10_nextToken N M6 a0) fun _ M9 =>
      some (v8, M9)
set_option maxRecDepth 100000 in
set_option maxHeartbeats 4000000 in
theorem bk_X10_number_14 {Γ : Gm} {ω : Wd} {k N : Nat} {r : Int32} {M' : Mem} (C : Cx Γ cX10_number 4 RX10 ω 2 0 0) (hr : Γ.meth.sig.returnType = (some .int)) (M : Mem) (a0 : Nat) (x1 : Int32) (x2 : Int32) (s0 : Int32) (s1 : Nat) (h : fn_X10_number_14 N M a0 x1 x2 s0 s1 = some (r, M')) : JJ Γ (QF Γ ω k 0 0 (some (.int r)) M') 4 ω k M 0 0 14 [(0, .ref a0), (1, .int x1), (2, .int x2)] [.int s0, .ref s1] := by
  unfold fn_X10_number_14 at h
  refine jv_iconst (v := 1) C dX10_number_14 (by decide) ?_
  refine jv_vI0 (As := [.int s0, .int 1]) C lk_X10_115 rfl dX10_number_15 rfl rfl (by decide) (by decide) (by decide) (Nat.le_of_ble_eq_true rfl) h (fun _ _ h => ct_X10_must h) (fun v2 M1 h => ?_)
  refine jv_if_eq (tgt := 41) C dX10_number_18 (by decide) h (fun h => ?_) (fun h => ?_)
  · refine jv_iconst (v := 0) C dX10_number_41 (by decide) ?_
    exact jv_iret C hr dX10_number_42 h
  · refine jv_aload_n C dX10_number_21 rfl 0 rfl ?_
    refine jv_aload_n C dX10_number_22 rfl 0 rfl ?_
    refine jv_getI C fa_X10_97 dX10_number_23 h (fun v3 h => ?_)
    refine jv_i2l C dX10_number_26 ?_
    refine jv_iload_n C dX10_number_27 rfl 1 rfl ?_
    refine jv_i2l C dX10_number_28 ?_
    refine jv_iload_n C dX10_number_29 rfl 2 rfl ?_
    refine jv_i2l C dX10_number_30 ?_
    refine jv_sI0 (As := [.long (Int32.toInt64 v3), .long (Int32.toInt64 x1), .long (Int32.toInt64 x2)]) C lk_X10_89 dX10_number_31 rfl rfl (by decide) (by decide) (by decide) (Nat.le_of_ble_eq_true rfl) h (fun _ _ h => ct_X10_within h) (fun v5 M4 h => ?_)
    refine jv_iconst (v := 2) C dX10_number_34 (by decide) ?_
    refine jv_vI0 (As := [.int v5, .int 2]) C lk_X10_115 rfl dX10_number_35 rfl rfl (by decide) (by decide) (by decide) (Nat.le_of_ble_eq_true rfl) h (fun _ _ h => ct_X10_must h) (fun v7 M6 h => ?_)
    refine jv_if_ne (tgt := 43) C dX10_number_38 (by decide) h (fun h => ?_) (fun h => ?_)
    · refine jv_aload_n C dX10_number_43 rfl 0 rfl ?_
      refine jv_getI C fa_X10_97 dX10_number_44 h (fun v8 h => ?_)
      refine jv_istore_n (lv' := [(3, .int v8), (0, .ref a0), (1, .int x1), (2, .int x2)]) C dX10_number_47 rfl (by decide) rfl ?_
      refine jv_aload_n C dX10_number_48 rfl 1 rfl ?_
      refine jv_vV0 (As := []) C lk_X10_119 rfl dX10_number_49 rfl rfl (by decide) (by decide) (by decide) (Nat.le_of_ble_eq_true rfl) h (fun _ _ h => ct_X10_nextToken h) (fun _ M9 h => ?_)
      refine jv_iload_n C dX10_number_52 rfl 0 rfl ?_
      exact jv_iret C hr dX10_number_53 h
    · refine jv_iconst (v := 0) C dX10_number_41 (by decide) ?_
      exact jv_iret C hr dX10_number_42 h
def fn_X10_number (N : Nat) (M : Mem) (a0 : Nat) (x1 : Int32) (x2 : Int32) : Option (Int32 × Mem) :=
  (mm_gI M a0 10 6).bind fun v1 =>
  if v1 = 2 then
    fn_X10_number_14 N M a0 x1 x2 1 a0
  else
    fn_X10_number_14 N M a0 x1 x2 0 a0
set_option maxRecDepth 100000 in
set_option maxHeartbeats 4000000 in
theorem ct_X10_number {l : Launch} {ω : Wd} {k N : Nat} {M : Mem} {a0 : Nat} {x1 : Int32} {x2 : Int32} {r : Int32} {M' : Mem} (h : fn_X10_number N M a0 x1 x2 = some (r, M')) : CM l ω k yX10_number cX10_number 4 (some .int) 2 0 0 [.ref a0, .int x1, .int x2] M (some (.int r)) M' := by
  refine CM.of (by decide) (Nat.le_of_ble_eq_true rfl) fun Γ hl C hr hi => ?_
  subst hl
  unfold fn_X10_number at h
  refine jv_aload_n C dX10_number_0 rfl 0 rfl ?_
  refine jv_aload_n C dX10_number_1 rfl 0 rfl ?_
  refine jv_getI C fa_X10_82 dX10_number_2 h (fun v1 h => ?_)
  refine jv_iconst (v := 2) C dX10_number_5 (by decide) ?_
  refine jv_icmp_ne (tgt := 13) C dX10_number_6 (by decide) h (fun h => ?_) (fun h => ?_)
  · refine jv_iconst (v := 0) C dX10_number_13 (by decide) ?_
    exact bk_X10_number_14 C hr _ _ _ _ _ _ h
  · refine jv_iconst (v := 1) C dX10_number_9 (by decide) ?_
    refine jv_goto (tgt := 14) C dX10_number_10 (by decide) ?_
    exact bk_X10_number_14 C hr _ _ _ _ _ _ h
theorem dX10_once_0 : decode cX10_once 0 = .ok (.aload_n 0, 1) := by decide +kernel
theorem dX10_once_1 : decode cX10_once 1 = .ok (.aload_n 0, 1) := by decide +kernel
theorem dX10_once_2 : decode cX10_once 2 = .ok (.getfield 126, 3) := by decide +kernel
theorem dX10_once_5 : decode cX10_once 5 = .ok (.iload_n 1, 1) := by decide +kernel
theorem dX10_once_6 : decode cX10_once 6 = .ok (.ishr, 1) := by decide +kernel
theorem dX10_once_7 : decode cX10_once 7 = .ok (.iconst 1, 1) := by decide +kernel
theorem dX10_once_8 : decode cX10_once 8 = .ok (.iand, 1) := by decide +kernel
theorem dX10_once_9 : decode cX10_once 9 = .ok (.ifCond .ne 7, 3) := by decide +kernel
theorem dX10_once_12 : decode cX10_once 12 = .ok (.iconst 1, 1) := by decide +kernel
theorem dX10_once_13 : decode cX10_once 13 = .ok (.goto 4, 3) := by decide +kernel
theorem dX10_once_16 : decode cX10_once 16 = .ok (.iconst 0, 1) := by decide +kernel
theorem dX10_once_17 : decode cX10_once 17 = .ok (.iconst 3, 1) := by decide +kernel
theorem dX10_once_18 : decode cX10_once 18 = .ok (.invokevirtual 115, 3) := by decide +kernel
theorem dX10_once_21 : decode cX10_once 21 = .ok (.pop, 1) := by decide +kernel
theorem dX10_once_22 : decode cX10_once 22 = .ok (.aload_n 0, 1) := by decide +kernel
theorem dX10_once_23 : decode cX10_once 23 = .ok (.dup, 1) := by decide +kernel
theorem dX10_once_24 : decode cX10_once 24 = .ok (.getfield 126, 3) := by decide +kernel
theorem dX10_once_27 : decode cX10_once 27 = .ok (.iconst 1, 1) := by decide +kernel
theorem dX10_once_28 : decode cX10_once 28 = .ok (.iload_n 1, 1) := by decide +kernel
theorem dX10_once_29 : decode cX10_once 29 = .ok (.ishl, 1) := by decide +kernel
theorem dX10_once_30 : decode cX10_once 30 = .ok (.ior, 1) := by decide +kernel
theorem dX10_once_31 : decode cX10_once 31 = .ok (.putfield 126, 3) := by decide +kernel
theorem dX10_once_34 : decode cX10_once 34 = .ok (.aload_n 0, 1) := by decide +kernel
theorem dX10_once_35 : decode cX10_once 35 = .ok (.getfield 100, 3) := by decide +kernel
theorem dX10_once_38 : decode cX10_once 38 = .ok (.ifCond .eq 5, 3) := by decide +kernel
theorem dX10_once_41 : decode cX10_once 41 = .ok (.iconst 0, 1) := by decide +kernel
theorem dX10_once_42 : decode cX10_once 42 = .ok (.ireturn, 1) := by decide +kernel
theorem dX10_once_43 : decode cX10_once 43 = .ok (.aload_n 0, 1) := by decide +kernel
theorem dX10_once_44 : decode cX10_once 44 = .ok (.invokevirtual 119, 3) := by decide +kernel
theorem dX10_once_47 : decode cX10_once 47 = .ok (.aload_n 0, 1) := by decide +kernel
theorem dX10_once_48 : decode cX10_once 48 = .ok (.iload_n 2, 1) := by decide +kernel
theorem dX10_once_49 : decode cX10_once 49 = .ok (.iload_n 3, 1) := by decide +kernel
theorem dX10_once_50 : decode cX10_once 50 = .ok (.invokevirtual 122, 3) := by decide +kernel
theorem dX10_once_53 : decode cX10_once 53 = .ok (.ireturn, 1) := by decide +kernel
def fn_X10_once_17 (N : Nat) (M : Mem) (a0 : Nat) (x1 : Int32) (x2 : Int32) (x3 : Int32) (s0 : Int32) (s1 : Nat) : Option (Int32 × Mem) :=
  (mm_ck M s1 10).bind fun _ => mm_b2 (fn_X10_must N M s1 s0 3) fun v2 M1 =>
  (mm_gI M1 a0 10 15).bind fun v3 =>
  (mm_pV M1 a0 10 15 (.int (v3 ||| (1 <<< (x1 &&& 31))))).bind fun M4 =>
  (mm_gI M4 a0 10 8).bind fun v5 =>
  if v5 = 0 then
    (mm_ck M4 a0 10).bind fun _ => mm_b2 (fn_X10_nextToken N M4 a0) fun _ M6 =>
    (mm_ck M6 a0 10).bind fun _ => mm_b2 (fn_X10_number N M6 a0 x2 x3) fun v8 M7 =>
    some (v8, M7)
  else
    some (0, M4)
set_option maxRecDepth 100000 in
set_option maxHeartbeats 4000000 in
theorem bk_X10_once_17 {Γ : Gm} {ω : Wd} {k N : Nat} {r : Int32} {M' : Mem} (C : Cx Γ cX10_once 4 RX10 ω 3 0 0) (hr : Γ.meth.sig.returnType = (some .int)) (M : Mem) (a0 : Nat) (x1 : Int32) (x2 : Int32) (x3 : Int32) (s0 : Int32) (s1 : Nat) (h : fn_X10_once_17 N M a0 x1 x2 x3 s0 s1 = some (r, M')) : JJ Γ (QF Γ ω k 0 0 (some (.int r)) M') 4 ω k M 0 0 17 [(0, .ref a0), (1, .int x1), (2, .int x2), (3, .int x3)] [.int s0, .ref s1] := by
  unfold fn_X10_once_17 at h
  refine jv_iconst (v := 3) C dX10_once_17 (by decide) ?_
  refine jv_vI0 (As := [.int s0, .int 3]) C lk_X10_115 rfl dX10_once_18 rfl rfl (by decide) (by decide) (by decide) (Nat.le_of_ble_eq_true rfl) h (fun _ _ h => ct_X10_must h) (fun v2 M1 h => ?_)
  refine jv_pop C dX10_once_21 rfl ?_
  refine jv_aload_n C dX10_once_22 rfl 0 rfl ?_
  refine jv_dup C dX10_once_23 rfl ?_
  refine jv_getI C fa_X10_126 dX10_once_24 h (fun v3 h => ?_)
  refine jv_iconst (v := 1) C dX10_once_27 (by decide) ?_
  refine jv_iload_n C dX10_once_28 rfl 1 rfl ?_
  refine jv_ishl C dX10_once_29 ?_
  refine jv_ior C dX10_once_30 ?_
  refine jv_putI C fp_X10_126 dX10_once_31 h (fun M4 h => ?_)
  refine jv_aload_n C dX10_once_34 rfl 0 rfl ?_
  refine jv_getI C fa_X10_100 dX10_once_35 h (fun v5 h => ?_)
  refine jv_if_eq (tgt := 43) C dX10_once_38 (by decide) h (fun h => ?_) (fun h => ?_)
  · refine jv_aload_n C dX10_once_43 rfl 0 rfl ?_
    refine jv_vV0 (As := []) C lk_X10_119 rfl dX10_once_44 rfl rfl (by decide) (by decide) (by decide) (Nat.le_of_ble_eq_true rfl) h (fun _ _ h => ct_X10_nextToken h) (fun _ M6 h => ?_)
    refine jv_aload_n C dX10_once_47 rfl 0 rfl ?_
    refine jv_iload_n C dX10_once_48 rfl 2 rfl ?_
    refine jv_iload_n C dX10_once_49 rfl 3 rfl ?_
    refine jv_vI0 (As := [.int x2, .int x3]) C lk_X10_122 rfl dX10_once_50 rfl rfl (by decide) (by decide) (by decide) (Nat.le_of_ble_eq_true rfl) h (fun _ _ h => ct_X10_number h) (fun v8 M7 h => ?_)
    exact jv_iret C hr dX10_once_53 h
  · refine jv_iconst (v := 0) C dX10_once_41 (by decide) ?_
    exact jv_iret C hr dX10_once_42 h
def fn_X10_once (N : Nat) (M : Mem) (a0 : Nat) (x1 : Int32) (x2 : Int32) (x3 : Int32) : Option (Int32 × Mem) :=
  (mm_gI M a0 10 15).bind fun v1 =>
  if ((v1 >>> (x1 &&& 31)) &&& 1) = 0 then
    fn_X10_once_17 N M a0 x1 x2 x3 1 a0
  else
    fn_X10_once_17 N M a0 x1 x2 x3 0 a0
set_option maxRecDepth 100000 in
set_option maxHeartbeats 4000000 in
theorem ct_X10_once {l : Launch} {ω : Wd} {k N : Nat} {M : Mem} {a0 : Nat} {x1 : Int32} {x2 : Int32} {x3 : Int32} {r : Int32} {M' : Mem} (h : fn_X10_once N M a0 x1 x2 x3 = some (r, M')) : CM l ω k yX10_once cX10_once 4 (some .int) 3 0 0 [.ref a0, .int x1, .int x2, .int x3] M (some (.int r)) M' := by
  refine CM.of (by decide) (Nat.le_of_ble_eq_true rfl) fun Γ hl C hr hi => ?_
  subst hl
  unfold fn_X10_once at h
  refine jv_aload_n C dX10_once_0 rfl 0 rfl ?_
  refine jv_aload_n C dX10_once_1 rfl 0 rfl ?_
  refine jv_getI C fa_X10_126 dX10_once_2 h (fun v1 h => ?_)
  refine jv_iload_n C dX10_once_5 rfl 1 rfl ?_
  refine jv_ishr C dX10_once_6 ?_
  refine jv_iconst (v := 1) C dX10_once_7 (by decide) ?_
  refine jv_iand C dX10_once_8 ?_
  refine jv_if_ne (tgt := 16) C dX10_once_9 (by decide) h (fun h => ?_) (fun h => ?_)
  · refine jv_iconst (v := 0) C dX10_once_16 (by decide) ?_
    exact bk_X10_once_17 C hr _ _ _ _ _ _ _ h
  · refine jv_iconst (v := 1) C dX10_once_12 (by decide) ?_
    refine jv_goto (tgt := 17) C dX10_once_13 (by decide) ?_
    exact bk_X10_once_17 C hr _ _ _ _ _ _ _ h
theorem dX10_readKind_0 : decode cX10_readKind 0 = .ok (.iconst 5, 1) := by decide +kernel
theorem dX10_readKind_1 : decode cX10_readKind 1 = .ok (.bipush 12, 2) := by decide +kernel
theorem dX10_readKind_3 : decode cX10_readKind 3 = .ok (.iload_n 1, 1) := by decide +kernel
theorem dX10_readKind_4 : decode cX10_readKind 4 = .ok (.iadd, 1) := by decide +kernel
theorem dX10_readKind_5 : decode cX10_readKind 5 = .ok (.imul, 1) := by decide +kernel
theorem dX10_readKind_6 : decode cX10_readKind 6 = .ok (.istore_n 3, 1) := by decide +kernel
theorem dX10_readKind_7 : decode cX10_readKind 7 = .ok (.aload_n 0, 1) := by decide +kernel
theorem dX10_readKind_8 : decode cX10_readKind 8 = .ok (.invokevirtual 119, 3) := by decide +kernel
theorem dX10_readKind_11 : decode cX10_readKind 11 = .ok (.aload_n 0, 1) := by decide +kernel
theorem dX10_readKind_12 : decode cX10_readKind 12 = .ok (.getfield 20, 3) := by decide +kernel
theorem dX10_readKind_15 : decode cX10_readKind 15 = .ok (.iload_n 3, 1) := by decide +kernel
theorem dX10_readKind_16 : decode cX10_readKind 16 = .ok (.iconst 0, 1) := by decide +kernel
theorem dX10_readKind_17 : decode cX10_readKind 17 = .ok (.iadd, 1) := by decide +kernel
theorem dX10_readKind_18 : decode cX10_readKind 18 = .ok (.iload_n 2, 1) := by decide +kernel
theorem dX10_readKind_19 : decode cX10_readKind 19 = .ok (.ifCond .eq 14, 3) := by decide +kernel
theorem dX10_readKind_22 : decode cX10_readKind 22 = .ok (.aload_n 0, 1) := by decide +kernel
theorem dX10_readKind_23 : decode cX10_readKind 23 = .ok (.iconst 1, 1) := by decide +kernel
theorem dX10_readKind_24 : decode cX10_readKind 24 = .ok (.sipush 500, 3) := by decide +kernel
theorem dX10_readKind_27 : decode cX10_readKind 27 = .ok (.invokevirtual 122, 3) := by decide +kernel
theorem dX10_readKind_30 : decode cX10_readKind 30 = .ok (.goto 4, 3) := by decide +kernel
theorem dX10_readKind_33 : decode cX10_readKind 33 = .ok (.iconst 0, 1) := by decide +kernel
theorem dX10_readKind_34 : decode cX10_readKind 34 = .ok (.iastore, 1) := by decide +kernel
theorem dX10_readKind_35 : decode cX10_readKind 35 = .ok (.aload_n 0, 1) := by decide +kernel
theorem dX10_readKind_36 : decode cX10_readKind 36 = .ok (.getfield 100, 3) := by decide +kernel
theorem dX10_readKind_39 : decode cX10_readKind 39 = .ok (.ifCond .ne 21, 3) := by decide +kernel
theorem dX10_readKind_42 : decode cX10_readKind 42 = .ok (.aload_n 0, 1) := by decide +kernel
theorem dX10_readKind_43 : decode cX10_readKind 43 = .ok (.getfield 20, 3) := by decide +kernel
theorem dX10_readKind_46 : decode cX10_readKind 46 = .ok (.iload_n 3, 1) := by decide +kernel
theorem dX10_readKind_47 : decode cX10_readKind 47 = .ok (.iconst 1, 1) := by decide +kernel
theorem dX10_readKind_48 : decode cX10_readKind 48 = .ok (.iadd, 1) := by decide +kernel
theorem dX10_readKind_49 : decode cX10_readKind 49 = .ok (.aload_n 0, 1) := by decide +kernel
theorem dX10_readKind_50 : decode cX10_readKind 50 = .ok (.sipush 1000, 3) := by decide +kernel
theorem dX10_readKind_53 : decode cX10_readKind 53 = .ok (.sipush 4000, 3) := by decide +kernel
theorem dX10_readKind_56 : decode cX10_readKind 56 = .ok (.invokevirtual 122, 3) := by decide +kernel
theorem dX10_readKind_59 : decode cX10_readKind 59 = .ok (.iastore, 1) := by decide +kernel
theorem dX10_readKind_60 : decode cX10_readKind 60 = .ok (.aload_n 0, 1) := by decide +kernel
theorem dX10_readKind_61 : decode cX10_readKind 61 = .ok (.getfield 100, 3) := by decide +kernel
theorem dX10_readKind_64 : decode cX10_readKind 64 = .ok (.ifCond .ne 21, 3) := by decide +kernel
theorem dX10_readKind_67 : decode cX10_readKind 67 = .ok (.aload_n 0, 1) := by decide +kernel
theorem dX10_readKind_68 : decode cX10_readKind 68 = .ok (.getfield 20, 3) := by decide +kernel
theorem dX10_readKind_71 : decode cX10_readKind 71 = .ok (.iload_n 3, 1) := by decide +kernel
theorem dX10_readKind_72 : decode cX10_readKind 72 = .ok (.iconst 1, 1) := by decide +kernel
theorem dX10_readKind_73 : decode cX10_readKind 73 = .ok (.iadd, 1) := by decide +kernel
theorem dX10_readKind_74 : decode cX10_readKind 74 = .ok (.iconst 1, 1) := by decide +kernel
theorem dX10_readKind_75 : decode cX10_readKind 75 = .ok (.iadd, 1) := by decide +kernel
theorem dX10_readKind_76 : decode cX10_readKind 76 = .ok (.aload_n 0, 1) := by decide +kernel
theorem dX10_readKind_77 : decode cX10_readKind 77 = .ok (.iconst 1, 1) := by decide +kernel
theorem dX10_readKind_78 : decode cX10_readKind 78 = .ok (.sipush 200, 3) := by decide +kernel
theorem dX10_readKind_81 : decode cX10_readKind 81 = .ok (.invokevirtual 122, 3) := by decide +kernel
theorem dX10_readKind_84 : decode cX10_readKind 84 = .ok (.iastore, 1) := by decide +kernel
theorem dX10_readKind_85 : decode cX10_readKind 85 = .ok (.aload_n 0, 1) := by decide +kernel
theorem dX10_readKind_86 : decode cX10_readKind 86 = .ok (.getfield 100, 3) := by decide +kernel
theorem dX10_readKind_89 : decode cX10_readKind 89 = .ok (.ifCond .ne 19, 3) := by decide +kernel
theorem dX10_readKind_92 : decode cX10_readKind 92 = .ok (.aload_n 0, 1) := by decide +kernel
theorem dX10_readKind_93 : decode cX10_readKind 93 = .ok (.getfield 20, 3) := by decide +kernel
theorem dX10_readKind_96 : decode cX10_readKind 96 = .ok (.iload_n 3, 1) := by decide +kernel
theorem dX10_readKind_97 : decode cX10_readKind 97 = .ok (.iconst 3, 1) := by decide +kernel
theorem dX10_readKind_98 : decode cX10_readKind 98 = .ok (.iadd, 1) := by decide +kernel
theorem dX10_readKind_99 : decode cX10_readKind 99 = .ok (.aload_n 0, 1) := by decide +kernel
theorem dX10_readKind_100 : decode cX10_readKind 100 = .ok (.iconst 0, 1) := by decide +kernel
theorem dX10_readKind_101 : decode cX10_readKind 101 = .ok (.sipush 9999, 3) := by decide +kernel
theorem dX10_readKind_104 : decode cX10_readKind 104 = .ok (.invokevirtual 122, 3) := by decide +kernel
theorem dX10_readKind_107 : decode cX10_readKind 107 = .ok (.iastore, 1) := by decide +kernel
theorem dX10_readKind_108 : decode cX10_readKind 108 = .ok (.aload_n 0, 1) := by decide +kernel
theorem dX10_readKind_109 : decode cX10_readKind 109 = .ok (.getfield 100, 3) := by decide +kernel
theorem dX10_readKind_112 : decode cX10_readKind 112 = .ok (.ifCond .ne 21, 3) := by decide +kernel
theorem dX10_readKind_115 : decode cX10_readKind 115 = .ok (.aload_n 0, 1) := by decide +kernel
theorem dX10_readKind_116 : decode cX10_readKind 116 = .ok (.getfield 20, 3) := by decide +kernel
theorem dX10_readKind_119 : decode cX10_readKind 119 = .ok (.iload_n 3, 1) := by decide +kernel
theorem dX10_readKind_120 : decode cX10_readKind 120 = .ok (.iconst 3, 1) := by decide +kernel
theorem dX10_readKind_121 : decode cX10_readKind 121 = .ok (.iadd, 1) := by decide +kernel
theorem dX10_readKind_122 : decode cX10_readKind 122 = .ok (.iconst 1, 1) := by decide +kernel
theorem dX10_readKind_123 : decode cX10_readKind 123 = .ok (.iadd, 1) := by decide +kernel
theorem dX10_readKind_124 : decode cX10_readKind 124 = .ok (.aload_n 0, 1) := by decide +kernel
theorem dX10_readKind_125 : decode cX10_readKind 125 = .ok (.iconst 1, 1) := by decide +kernel
theorem dX10_readKind_126 : decode cX10_readKind 126 = .ok (.sipush 500, 3) := by decide +kernel
theorem dX10_readKind_129 : decode cX10_readKind 129 = .ok (.invokevirtual 122, 3) := by decide +kernel
theorem dX10_readKind_132 : decode cX10_readKind 132 = .ok (.iastore, 1) := by decide +kernel
theorem dX10_readKind_133 : decode cX10_readKind 133 = .ok (.return_, 1) := by decide +kernel
def fn_X10_readKind_108 (N : Nat) (M : Mem) (a0 : Nat) (x3 : Int32) : Option (Unit × Mem) :=
  (mm_gI M a0 10 8).bind fun v1 =>
  if v1 = 0 then
    (mm_gR M a0 10 12).bind fun b2 =>
    (mm_ck M a0 10).bind fun _ => mm_b2 (fn_X10_number N M a0 1 500) fun v4 M3 =>
    (mm_sI M3 b2 0 ((x3 + 3) + 1) v4).bind fun M5 =>
    some ((), M5)
  else
    some ((), M)
set_option maxRecDepth 100000 in
set_option maxHeartbeats 4000000 in
theorem bk_X10_readKind_108 {Γ : Gm} {ω : Wd} {k N : Nat} {r : Unit} {M' : Mem} (C : Cx Γ cX10_readKind 4 RX10 ω 3 0 0) (hr : Γ.meth.sig.returnType = none) (M : Mem) (a0 : Nat) (x3 : Int32) (h : fn_X10_readKind_108 N M a0 x3 = some (r, M')) : JJ Γ (QF Γ ω k 0 0 none M') 4 ω k M 0 0 108 [(0, .ref a0), (3, .int x3)] [] := by
  unfold fn_X10_readKind_108 at h
  refine jv_aload_n C dX10_readKind_108 rfl 0 rfl ?_
  refine jv_getI C fa_X10_100 dX10_readKind_109 h (fun v1 h => ?_)
  refine jv_if_ne (tgt := 133) C dX10_readKind_112 (by decide) h (fun h => ?_) (fun h => ?_)
  · exact jv_vret C hr dX10_readKind_133 h
  · refine jv_aload_n C dX10_readKind_115 rfl 0 rfl ?_
    refine jv_getR C fa_X10_20 dX10_readKind_116 h (fun b2 h => ?_)
    refine jv_iload_n C dX10_readKind_119 rfl 1 rfl ?_
    refine jv_iconst (v := 3) C dX10_readKind_120 (by decide) ?_
    refine jv_iadd C dX10_readKind_121 ?_
    refine jv_iconst (v := 1) C dX10_readKind_122 (by decide) ?_
    refine jv_iadd C dX10_readKind_123 ?_
    refine jv_aload_n C dX10_readKind_124 rfl 0 rfl ?_
    refine jv_iconst (v := 1) C dX10_readKind_125 (by decide) ?_
    refine jv_sipush (v := 500) C dX10_readKind_126 (by decide) ?_
    refine jv_vI0 (As := [.int 1, .int 500]) C lk_X10_122 rfl dX10_readKind_129 rfl rfl (by decide) (by decide) (by decide) (Nat.le_of_ble_eq_true rfl) h (fun _ _ h => ct_X10_number h) (fun v4 M3 h => ?_)
    refine jv_iast C dX10_readKind_132 h (fun M5 h => ?_)
    exact jv_vret C hr dX10_readKind_133 h
def fn_X10_readKind_85 (N : Nat) (M : Mem) (a0 : Nat) (x3 : Int32) : Option (Unit × Mem) :=
  (mm_gI M a0 10 8).bind fun v1 =>
  if v1 = 0 then
    (mm_gR M a0 10 12).bind fun b2 =>
    (mm_ck M a0 10).bind fun _ => mm_b2 (fn_X10_number N M a0 0 9999) fun v4 M3 =>
    (mm_sI M3 b2 0 (x3 + 3) v4).bind fun M5 =>
    fn_X10_readKind_108 N M5 a0 x3
  else
    fn_X10_readKind_108 N M a0 x3
set_option maxRecDepth 100000 in
set_option maxHeartbeats 4000000 in
theorem bk_X10_readKind_85 {Γ : Gm} {ω : Wd} {k N : Nat} {r : Unit} {M' : Mem} (C : Cx Γ cX10_readKind 4 RX10 ω 3 0 0) (hr : Γ.meth.sig.returnType = none) (M : Mem) (a0 : Nat) (x3 : Int32) (h : fn_X10_readKind_85 N M a0 x3 = some (r, M')) : JJ Γ (QF Γ ω k 0 0 none M') 4 ω k M 0 0 85 [(0, .ref a0), (3, .int x3)] [] := by
  unfold fn_X10_readKind_85 at h
  refine jv_aload_n C dX10_readKind_85 rfl 0 rfl ?_
  refine jv_getI C fa_X10_100 dX10_readKind_86 h (fun v1 h => ?_)
  refine jv_if_ne (tgt := 108) C dX10_readKind_89 (by decide) h (fun h => ?_) (fun h => ?_)
  · exact bk_X10_readKind_108 C hr _ _ _ h
  · refine jv_aload_n C dX10_readKind_92 rfl 0 rfl ?_
    refine jv_getR C fa_X10_20 dX10_readKind_93 h (fun b2 h => ?_)
    refine jv_iload_n C dX10_readKind_96 rfl 1 rfl ?_
    refine jv_iconst (v := 3) C dX10_readKind_97 (by decide) ?_
    refine jv_iadd C dX10_readKind_98 ?_
    refine jv_aload_n C dX10_readKind_99 rfl 0 rfl ?_
    refine jv_iconst (v := 0) C dX10_readKind_100 (by decide) ?_
    refine jv_sipush (v := 9999) C dX10_readKind_101 (by decide) ?_
    refine jv_vI0 (As := [.int 0, .int 9999]) C lk_X10_122 rfl dX10_readKind_104 rfl rfl (by decide) (by decide) (by decide) (Nat.le_of_ble_eq_true rfl) h (fun _ _ h => ct_X10_number h) (fun v4 M3 h => ?_)
    refine jv_iast C dX10_readKind_107 h (fun M5 h => ?_)
    exact bk_X10_readKind_108 C hr _ _ _ h
def fn_X10_readKind_60 (N : Nat) (M : Mem) (a0 : Nat) (x3 : Int32) : Option (Unit × Mem) :=
  (mm_gI M a0 10 8).bind fun v1 =>
  if v1 = 0 then
    (mm_gR M a0 10 12).bind fun b2 =>
    (mm_ck M a0 10).bind fun _ => mm_b2 (fn_X10_number N M a0 1 200) fun v4 M3 =>
    (mm_sI M3 b2 0 ((x3 + 1) + 1) v4).bind fun M5 =>
    fn_X10_readKind_85 N M5 a0 x3
  else
    fn_X10_readKind_85 N M a0 x3
set_option maxRecDepth 100000 in
set_option maxHeartbeats 4000000 in
theorem bk_X10_readKind_60 {Γ : Gm} {ω : Wd} {k N : Nat} {r : Unit} {M' : Mem} (C : Cx Γ cX10_readKind 4 RX10 ω 3 0 0) (hr : Γ.meth.sig.returnType = none) (M : Mem) (a0 : Nat) (x3 : Int32) (h : fn_X10_readKind_60 N M a0 x3 = some (r, M')) : JJ Γ (QF Γ ω k 0 0 none M') 4 ω k M 0 0 60 [(0, .ref a0), (3, .int x3)] [] := by
  unfold fn_X10_readKind_60 at h
  refine jv_aload_n C dX10_readKind_60 rfl 0 rfl ?_
  refine jv_getI C fa_X10_100 dX10_readKind_61 h (fun v1 h => ?_)
  refine jv_if_ne (tgt := 85) C dX10_readKind_64 (by decide) h (fun h => ?_) (fun h => ?_)
  · exact bk_X10_readKind_85 C hr _ _ _ h
  · refine jv_aload_n C dX10_readKind_67 rfl 0 rfl ?_
    refine jv_getR C fa_X10_20 dX10_readKind_68 h (fun b2 h => ?_)
    refine jv_iload_n C dX10_readKind_71 rfl 1 rfl ?_
    refine jv_iconst (v := 1) C dX10_readKind_72 (by decide) ?_
    refine jv_iadd C dX10_readKind_73 ?_
    refine jv_iconst (v := 1) C dX10_readKind_74 (by decide) ?_
    refine jv_iadd C dX10_readKind_75 ?_
    refine jv_aload_n C dX10_readKind_76 rfl 0 rfl ?_
    refine jv_iconst (v := 1) C dX10_readKind_77 (by decide) ?_
    refine jv_sipush (v := 200) C dX10_readKind_78 (by decide) ?_
    refine jv_vI0 (As := [.int 1, .int 200]) C lk_X10_122 rfl dX10_readKind_81 rfl rfl (by decide) (by decide) (by decide) (Nat.le_of_ble_eq_true rfl) h (fun _ _ h => ct_X10_number h) (fun v4 M3 h => ?_)
    refine jv_iast C dX10_readKind_84 h (fun M5 h => ?_)
    exact bk_X10_readKind_85 C hr _ _ _ h
def fn_X10_readKind_34 (N : Nat) (M : Mem) (a0 : Nat) (x3 : Int32) (s0 : Int32) (s1 : Int32) (s2 : Nat) : Option (Unit × Mem) :=
  (mm_sI M s2 0 s1 s0).bind fun M1 =>
  (mm_gI M1 a0 10 8).bind fun v2 =>
  if v2 = 0 then
    (mm_gR M1 a0 10 12).bind fun b3 =>
    (mm_ck M1 a0 10).bind fun _ => mm_b2 (fn_X10_number N M1 a0 1000 4000) fun v5 M4 =>
    (mm_sI M4 b3 0 (x3 + 1) v5).bind fun M6 =>
    fn_X10_readKind_60 N M6 a0 x3
  else
    fn_X10_readKind_60 N M1 a0 x3
set_option maxRecDepth 100000 in
set_option maxHeartbeats 4000000 in
theorem bk_X10_readKind_34 {Γ : Gm} {ω : Wd} {k N : Nat} {r : Unit} {M' : Mem} (C : Cx Γ cX10_readKind 4 RX10 ω 3 0 0) (hr : Γ.meth.sig.returnType = none) (M : Mem) (a0 : Nat) (x3 : Int32) (s0 : Int32) (s1 : Int32) (s2 : Nat) (h : fn_X10_readKind_34 N M a0 x3 s0 s1 s2 = some (r, M')) : JJ Γ (QF Γ ω k 0 0 none M') 4 ω k M 0 0 34 [(0, .ref a0), (3, .int x3)] [.int s0, .int s1, .ref s2] := by
  unfold fn_X10_readKind_34 at h
  refine jv_iast C dX10_readKind_34 h (fun M1 h => ?_)
  refine jv_aload_n C dX10_readKind_35 rfl 0 rfl ?_
  refine jv_getI C fa_X10_100 dX10_readKind_36 h (fun v2 h => ?_)
  refine jv_if_ne (tgt := 60) C dX10_readKind_39 (by decide) h (fun h => ?_) (fun h => ?_)
  · exact bk_X10_readKind_60 C hr _ _ _ h
  · refine jv_aload_n C dX10_readKind_42 rfl 0 rfl ?_
    refine jv_getR C fa_X10_20 dX10_readKind_43 h (fun b3 h => ?_)
    refine jv_iload_n C dX10_readKind_46 rfl 1 rfl ?_
    refine jv_iconst (v := 1) C dX10_readKind_47 (by decide) ?_
    refine jv_iadd C dX10_readKind_48 ?_
    refine jv_aload_n C dX10_readKind_49 rfl 0 rfl ?_
    refine jv_sipush (v := 1000) C dX10_readKind_50 (by decide) ?_
    refine jv_sipush (v := 4000) C dX10_readKind_53 (by decide) ?_
    refine jv_vI0 (As := [.int 1000, .int 4000]) C lk_X10_122 rfl dX10_readKind_56 rfl rfl (by decide) (by decide) (by decide) (Nat.le_of_ble_eq_true rfl) h (fun _ _ h => ct_X10_number h) (fun v5 M4 h => ?_)
    refine jv_iast C dX10_readKind_59 h (fun M6 h => ?_)
    exact bk_X10_readKind_60 C hr _ _ _ h
def fn_X10_readKind (N : Nat) (M : Mem) (a0 : Nat) (x1 : Int32) (x2 : Int32) : Option (Unit × Mem) :=
  (mm_ck M a0 10).bind fun _ => mm_b2 (fn_X10_nextToken N M a0) fun _ M1 =>
  (mm_gR M1 a0 10 12).bind fun b2 =>
  if x2 = 0 then
    fn_X10_readKind_34 N M1 a0 ((5 * (12 + x1))) 0 (((5 * (12 + x1)) + 0)) b2
  else
    (mm_ck M1 a0 10).bind fun _ => mm_b2 (fn_X10_number N M1 a0 1 500) fun v4 M3 =>
    fn_X10_readKind_34 N M3 a0 ((5 * (12 + x1))) v4 (((5 * (12 + x1)) + 0)) b2
set_option maxRecDepth 100000 in
set_option maxHeartbeats 4000000 in
theorem ct_X10_readKind {l : Launch} {ω : Wd} {k N : Nat} {M : Mem} {a0 : Nat} {x1 : Int32} {x2 : Int32} {r : Unit} {M' : Mem} (h : fn_X10_readKind N M a0 x1 x2 = some (r, M')) : CM l ω k yX10_readKind cX10_readKind 4 none 3 0 0 [.ref a0, .int x1, .int x2] M none M' := by
  refine CM.of (by decide) (Nat.le_of_ble_eq_true rfl) fun Γ hl C hr hi => ?_
  subst hl
  unfold fn_X10_readKind at h
  refine jv_iconst (v := 5) C dX10_readKind_0 (by decide) ?_
  refine jv_bipush (v := 12) C dX10_readKind_1 (by decide) ?_
  refine jv_iload_n C dX10_readKind_3 rfl 1 rfl ?_
  refine jv_iadd C dX10_readKind_4 ?_
  refine jv_imul C dX10_readKind_5 ?_
  refine jv_istore_n (lv' := [(3, .int (5 * (12 + x1))), (0, .ref a0), (1, .int x1), (2, .int x2)]) C dX10_readKind_6 rfl (by decide) rfl ?_
  refine jv_aload_n C dX10_readKind_7 rfl 1 rfl ?_
  refine jv_vV0 (As := []) C lk_X10_119 rfl dX10_readKind_8 rfl rfl (by decide) (by decide) (by decide) (Nat.le_of_ble_eq_true rfl) h (fun _ _ h => ct_X10_nextToken h) (fun _ M1 h => ?_)
  refine jv_aload_n C dX10_readKind_11 rfl 1 rfl ?_
  refine jv_getR C fa_X10_20 dX10_readKind_12 h (fun b2 h => ?_)
  refine jv_iload_n C dX10_readKind_15 rfl 0 rfl ?_
  refine jv_iconst (v := 0) C dX10_readKind_16 (by decide) ?_
  refine jv_iadd C dX10_readKind_17 ?_
  refine jv_iload_n C dX10_readKind_18 rfl 3 rfl ?_
  refine jv_if_eq (tgt := 33) C dX10_readKind_19 (by decide) h (fun h => ?_) (fun h => ?_)
  · refine jv_iconst (v := 0) C dX10_readKind_33 (by decide) ?_
    refine jv_sub [1, 0] rfl ?_
    exact bk_X10_readKind_34 C hr _ _ _ _ _ _ h
  · refine jv_aload_n C dX10_readKind_22 rfl 1 rfl ?_
    refine jv_iconst (v := 1) C dX10_readKind_23 (by decide) ?_
    refine jv_sipush (v := 500) C dX10_readKind_24 (by decide) ?_
    refine jv_vI0 (As := [.int 1, .int 500]) C lk_X10_122 rfl dX10_readKind_27 rfl rfl (by decide) (by decide) (by decide) (Nat.le_of_ble_eq_true rfl) h (fun _ _ h => ct_X10_number h) (fun v4 M3 h => ?_)
    refine jv_goto (tgt := 34) C dX10_readKind_30 (by decide) ?_
    refine jv_sub [1, 0] rfl ?_
    exact bk_X10_readKind_34 C hr _ _ _ _ _ _ h
