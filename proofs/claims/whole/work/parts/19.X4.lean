theorem dX4_begin_0 : decode cX4_begin 0 = .ok (.aload_n 0, 1) := by decide +kernel
theorem dX4_begin_1 : decode cX4_begin 1 = .ok (.aload_n 1, 1) := by decide +kernel
theorem dX4_begin_2 : decode cX4_begin 2 = .ok (.putfield 9, 3) := by decide +kernel
theorem dX4_begin_5 : decode cX4_begin 5 = .ok (.aload_n 0, 1) := by decide +kernel
theorem dX4_begin_6 : decode cX4_begin 6 = .ok (.iload_n 2, 1) := by decide +kernel
theorem dX4_begin_7 : decode cX4_begin 7 = .ok (.putfield 15, 3) := by decide +kernel
theorem dX4_begin_10 : decode cX4_begin 10 = .ok (.aload_n 0, 1) := by decide +kernel
theorem dX4_begin_11 : decode cX4_begin 11 = .ok (.iconst 0, 1) := by decide +kernel
theorem dX4_begin_12 : decode cX4_begin 12 = .ok (.putfield 19, 3) := by decide +kernel
theorem dX4_begin_15 : decode cX4_begin 15 = .ok (.aload_n 0, 1) := by decide +kernel
theorem dX4_begin_16 : decode cX4_begin 16 = .ok (.iconst 0, 1) := by decide +kernel
theorem dX4_begin_17 : decode cX4_begin 17 = .ok (.putfield 22, 3) := by decide +kernel
theorem dX4_begin_20 : decode cX4_begin 20 = .ok (.aload_n 0, 1) := by decide +kernel
theorem dX4_begin_21 : decode cX4_begin 21 = .ok (.iconst 0, 1) := by decide +kernel
theorem dX4_begin_22 : decode cX4_begin 22 = .ok (.putfield 25, 3) := by decide +kernel
theorem dX4_begin_25 : decode cX4_begin 25 = .ok (.aload_n 0, 1) := by decide +kernel
theorem dX4_begin_26 : decode cX4_begin 26 = .ok (.iconst 0, 1) := by decide +kernel
theorem dX4_begin_27 : decode cX4_begin 27 = .ok (.putfield 29, 3) := by decide +kernel
theorem dX4_begin_30 : decode cX4_begin 30 = .ok (.aload_n 0, 1) := by decide +kernel
theorem dX4_begin_31 : decode cX4_begin 31 = .ok (.iconst 0, 1) := by decide +kernel
theorem dX4_begin_32 : decode cX4_begin 32 = .ok (.putfield 32, 3) := by decide +kernel
theorem dX4_begin_35 : decode cX4_begin 35 = .ok (.return_, 1) := by decide +kernel
def fn_X4_begin (N : Nat) (M : Mem) (a0 : Nat) (a1 : Nat) (x2 : Int32) : Option (Unit × Mem) :=
  (mm_pV M a0 4 0 (.ref a1)).bind fun M1 =>
  (mm_pV M1 a0 4 1 (.int x2)).bind fun M2 =>
  (mm_pV M2 a0 4 4 (.int 0)).bind fun M3 =>
  (mm_pV M3 a0 4 5 (.int 0)).bind fun M4 =>
  (mm_pZ M4 a0 4 6 0).bind fun M5 =>
  (mm_pZ M5 a0 4 7 0).bind fun M6 =>
  (mm_pZ M6 a0 4 8 0).bind fun M7 =>
  some ((), M7)
set_option maxRecDepth 100000 in
set_option maxHeartbeats 4000000 in
theorem ct_X4_begin {l : Launch} {ω : Wd} {k N : Nat} {M : Mem} {a0 : Nat} {a1 : Nat} {x2 : Int32} {r : Unit} {M' : Mem} (h : fn_X4_begin N M a0 a1 x2 = some (r, M')) : CM l ω k yX4_begin cX4_begin 3 none 0 0 0 [.ref a0, .ref a1, .int x2] M none M' := by
  refine CM.of (by decide) (Nat.le_of_ble_eq_true rfl) fun Γ hl C hr hi => ?_
  subst hl
  unfold fn_X4_begin at h
  refine jv_aload_n C dX4_begin_0 rfl 0 rfl ?_
  refine jv_aload_n C dX4_begin_1 rfl 1 rfl ?_
  refine jv_putR C fp_X4_9 dX4_begin_2 (fun _ => ⟨rfl, rfl⟩) h (fun M1 h => ?_)
  refine jv_aload_n C dX4_begin_5 rfl 0 rfl ?_
  refine jv_iload_n C dX4_begin_6 rfl 2 rfl ?_
  refine jv_putI C fp_X4_15 dX4_begin_7 h (fun M2 h => ?_)
  refine jv_aload_n C dX4_begin_10 rfl 0 rfl ?_
  refine jv_iconst (v := 0) C dX4_begin_11 (by decide) ?_
  refine jv_putI C fp_X4_19 dX4_begin_12 h (fun M3 h => ?_)
  refine jv_aload_n C dX4_begin_15 rfl 0 rfl ?_
  refine jv_iconst (v := 0) C dX4_begin_16 (by decide) ?_
  refine jv_putI C fp_X4_22 dX4_begin_17 h (fun M4 h => ?_)
  refine jv_aload_n C dX4_begin_20 rfl 0 rfl ?_
  refine jv_iconst (v := 0) C dX4_begin_21 (by decide) ?_
  refine jv_putZ C fp_X4_25 dX4_begin_22 h (fun M5 h => ?_)
  refine jv_aload_n C dX4_begin_25 rfl 0 rfl ?_
  refine jv_iconst (v := 0) C dX4_begin_26 (by decide) ?_
  refine jv_putZ C fp_X4_29 dX4_begin_27 h (fun M6 h => ?_)
  refine jv_aload_n C dX4_begin_30 rfl 0 rfl ?_
  refine jv_iconst (v := 0) C dX4_begin_31 (by decide) ?_
  refine jv_putZ C fp_X4_32 dX4_begin_32 h (fun M7 h => ?_)
  exact jv_vret C hr dX4_begin_35 h
theorem dX4_byteAt_0 : decode cX4_byteAt 0 = .ok (.iload_n 1, 1) := by decide +kernel
theorem dX4_byteAt_1 : decode cX4_byteAt 1 = .ok (.ifCond .lt 33, 3) := by decide +kernel
theorem dX4_byteAt_4 : decode cX4_byteAt 4 = .ok (.iload_n 1, 1) := by decide +kernel
theorem dX4_byteAt_5 : decode cX4_byteAt 5 = .ok (.aload_n 0, 1) := by decide +kernel
theorem dX4_byteAt_6 : decode cX4_byteAt 6 = .ok (.getfield 15, 3) := by decide +kernel
theorem dX4_byteAt_9 : decode cX4_byteAt 9 = .ok (.if_icmp .ge 25, 3) := by decide +kernel
theorem dX4_byteAt_12 : decode cX4_byteAt 12 = .ok (.iload_n 1, 1) := by decide +kernel
theorem dX4_byteAt_13 : decode cX4_byteAt 13 = .ok (.aload_n 0, 1) := by decide +kernel
theorem dX4_byteAt_14 : decode cX4_byteAt 14 = .ok (.getfield 9, 3) := by decide +kernel
theorem dX4_byteAt_17 : decode cX4_byteAt 17 = .ok (.arraylength, 1) := by decide +kernel
theorem dX4_byteAt_18 : decode cX4_byteAt 18 = .ok (.if_icmp .ge 16, 3) := by decide +kernel
theorem dX4_byteAt_21 : decode cX4_byteAt 21 = .ok (.aload_n 0, 1) := by decide +kernel
theorem dX4_byteAt_22 : decode cX4_byteAt 22 = .ok (.getfield 9, 3) := by decide +kernel
theorem dX4_byteAt_25 : decode cX4_byteAt 25 = .ok (.iload_n 1, 1) := by decide +kernel
theorem dX4_byteAt_26 : decode cX4_byteAt 26 = .ok (.baload, 1) := by decide +kernel
theorem dX4_byteAt_27 : decode cX4_byteAt 27 = .ok (.sipush 255, 3) := by decide +kernel
theorem dX4_byteAt_30 : decode cX4_byteAt 30 = .ok (.iand, 1) := by decide +kernel
theorem dX4_byteAt_31 : decode cX4_byteAt 31 = .ok (.goto 4, 3) := by decide +kernel
theorem dX4_byteAt_34 : decode cX4_byteAt 34 = .ok (.iconst (-1), 1) := by decide +kernel
theorem dX4_byteAt_35 : decode cX4_byteAt 35 = .ok (.ireturn, 1) := by decide +kernel
def fn_X4_byteAt (N : Nat) (M : Mem) (a0 : Nat) (x1 : Int32) : Option (Int32 × Mem) :=
  if x1 < 0 then
    some ((-1), M)
  else
    (mm_gI M a0 4 1).bind fun v1 =>
    if v1 ≤ x1 then
      some ((-1), M)
    else
      (mm_gR M a0 4 0).bind fun b2 =>
      (mm_aN M b2).bind fun v3 =>
      if v3 ≤ x1 then
        some ((-1), M)
      else
        (mm_gR M a0 4 0).bind fun b4 =>
        (mm_aI M b4 2 x1).bind fun v5 =>
        some ((v5 &&& 255), M)
set_option maxRecDepth 100000 in
set_option maxHeartbeats 4000000 in
theorem ct_X4_byteAt {l : Launch} {ω : Wd} {k N : Nat} {M : Mem} {a0 : Nat} {x1 : Int32} {r : Int32} {M' : Mem} (h : fn_X4_byteAt N M a0 x1 = some (r, M')) : CM l ω k yX4_byteAt cX4_byteAt 2 (some .int) 0 0 0 [.ref a0, .int x1] M (some (.int r)) M' := by
  refine CM.of (by decide) (Nat.le_of_ble_eq_true rfl) fun Γ hl C hr hi => ?_
  subst hl
  unfold fn_X4_byteAt at h
  refine jv_iload_n C dX4_byteAt_0 rfl 1 rfl ?_
  refine jv_if_lt (tgt := 34) C dX4_byteAt_1 (by decide) h (fun h => ?_) (fun h => ?_)
  · refine jv_iconst (v := (-1)) C dX4_byteAt_34 (by decide) ?_
    exact jv_iret C hr dX4_byteAt_35 h
  · refine jv_iload_n C dX4_byteAt_4 rfl 1 rfl ?_
    refine jv_aload_n C dX4_byteAt_5 rfl 0 rfl ?_
    refine jv_getI C fa_X4_15 dX4_byteAt_6 h (fun v1 h => ?_)
    refine jv_icmp_ge (tgt := 34) C dX4_byteAt_9 (by decide) h (fun h => ?_) (fun h => ?_)
    · refine jv_iconst (v := (-1)) C dX4_byteAt_34 (by decide) ?_
      exact jv_iret C hr dX4_byteAt_35 h
    · refine jv_iload_n C dX4_byteAt_12 rfl 1 rfl ?_
      refine jv_aload_n C dX4_byteAt_13 rfl 0 rfl ?_
      refine jv_getR C fa_X4_9 dX4_byteAt_14 h (fun b2 h => ?_)
      refine jv_alen C dX4_byteAt_17 h (fun v3 h => ?_)
      refine jv_icmp_ge (tgt := 34) C dX4_byteAt_18 (by decide) h (fun h => ?_) (fun h => ?_)
      · refine jv_iconst (v := (-1)) C dX4_byteAt_34 (by decide) ?_
        exact jv_iret C hr dX4_byteAt_35 h
      · refine jv_aload_n C dX4_byteAt_21 rfl 0 rfl ?_
        refine jv_getR C fa_X4_9 dX4_byteAt_22 h (fun b4 h => ?_)
        refine jv_iload_n C dX4_byteAt_25 rfl 1 rfl ?_
        refine jv_bald C dX4_byteAt_26 h (fun v5 h => ?_)
        refine jv_sipush (v := 255) C dX4_byteAt_27 (by decide) ?_
        refine jv_iand C dX4_byteAt_30 ?_
        refine jv_goto (tgt := 35) C dX4_byteAt_31 (by decide) ?_
        exact jv_iret C hr dX4_byteAt_35 h
theorem dX4_tokenOf_0 : decode cX4_tokenOf 0 = .ok (.iload_n 0, 1) := by decide +kernel
theorem dX4_tokenOf_1 : decode cX4_tokenOf 1 = .ok (.iconst (-1), 1) := by decide +kernel
theorem dX4_tokenOf_2 : decode cX4_tokenOf 2 = .ok (.if_icmp .ne 5, 3) := by decide +kernel
theorem dX4_tokenOf_5 : decode cX4_tokenOf 5 = .ok (.iconst 0, 1) := by decide +kernel
theorem dX4_tokenOf_6 : decode cX4_tokenOf 6 = .ok (.ireturn, 1) := by decide +kernel
theorem dX4_tokenOf_7 : decode cX4_tokenOf 7 = .ok (.iload_n 0, 1) := by decide +kernel
theorem dX4_tokenOf_8 : decode cX4_tokenOf 8 = .ok (.bipush 32, 2) := by decide +kernel
theorem dX4_tokenOf_10 : decode cX4_tokenOf 10 = .ok (.if_icmp .eq 9, 3) := by decide +kernel
theorem dX4_tokenOf_13 : decode cX4_tokenOf 13 = .ok (.iload_n 0, 1) := by decide +kernel
theorem dX4_tokenOf_14 : decode cX4_tokenOf 14 = .ok (.bipush 10, 2) := by decide +kernel
theorem dX4_tokenOf_16 : decode cX4_tokenOf 16 = .ok (.if_icmp .ne 5, 3) := by decide +kernel
theorem dX4_tokenOf_19 : decode cX4_tokenOf 19 = .ok (.iconst 1, 1) := by decide +kernel
theorem dX4_tokenOf_20 : decode cX4_tokenOf 20 = .ok (.ireturn, 1) := by decide +kernel
theorem dX4_tokenOf_21 : decode cX4_tokenOf 21 = .ok (.iload_n 0, 1) := by decide +kernel
theorem dX4_tokenOf_22 : decode cX4_tokenOf 22 = .ok (.bipush 97, 2) := by decide +kernel
theorem dX4_tokenOf_24 : decode cX4_tokenOf 24 = .ok (.if_icmp .lt 11, 3) := by decide +kernel
theorem dX4_tokenOf_27 : decode cX4_tokenOf 27 = .ok (.iload_n 0, 1) := by decide +kernel
theorem dX4_tokenOf_28 : decode cX4_tokenOf 28 = .ok (.bipush 122, 2) := by decide +kernel
theorem dX4_tokenOf_30 : decode cX4_tokenOf 30 = .ok (.if_icmp .gt 5, 3) := by decide +kernel
theorem dX4_tokenOf_33 : decode cX4_tokenOf 33 = .ok (.iconst 2, 1) := by decide +kernel
theorem dX4_tokenOf_34 : decode cX4_tokenOf 34 = .ok (.ireturn, 1) := by decide +kernel
theorem dX4_tokenOf_35 : decode cX4_tokenOf 35 = .ok (.iload_n 0, 1) := by decide +kernel
theorem dX4_tokenOf_36 : decode cX4_tokenOf 36 = .ok (.bipush 48, 2) := by decide +kernel
theorem dX4_tokenOf_38 : decode cX4_tokenOf 38 = .ok (.if_icmp .lt 11, 3) := by decide +kernel
theorem dX4_tokenOf_41 : decode cX4_tokenOf 41 = .ok (.iload_n 0, 1) := by decide +kernel
theorem dX4_tokenOf_42 : decode cX4_tokenOf 42 = .ok (.bipush 57, 2) := by decide +kernel
theorem dX4_tokenOf_44 : decode cX4_tokenOf 44 = .ok (.if_icmp .gt 5, 3) := by decide +kernel
theorem dX4_tokenOf_47 : decode cX4_tokenOf 47 = .ok (.iconst 3, 1) := by decide +kernel
theorem dX4_tokenOf_48 : decode cX4_tokenOf 48 = .ok (.ireturn, 1) := by decide +kernel
theorem dX4_tokenOf_49 : decode cX4_tokenOf 49 = .ok (.iload_n 0, 1) := by decide +kernel
theorem dX4_tokenOf_50 : decode cX4_tokenOf 50 = .ok (.bipush 59, 2) := by decide +kernel
theorem dX4_tokenOf_52 : decode cX4_tokenOf 52 = .ok (.if_icmp .ne 7, 3) := by decide +kernel
theorem dX4_tokenOf_55 : decode cX4_tokenOf 55 = .ok (.iconst 4, 1) := by decide +kernel
theorem dX4_tokenOf_56 : decode cX4_tokenOf 56 = .ok (.goto 4, 3) := by decide +kernel
theorem dX4_tokenOf_59 : decode cX4_tokenOf 59 = .ok (.iconst 5, 1) := by decide +kernel
theorem dX4_tokenOf_60 : decode cX4_tokenOf 60 = .ok (.ireturn, 1) := by decide +kernel
def fn_X4_tokenOf_49 (N : Nat) (M : Mem) (x0 : Int32) : Option (Int32 × Mem) :=
  if x0 = 59 then
    some (4, M)
  else
    some (5, M)
set_option maxRecDepth 100000 in
set_option maxHeartbeats 4000000 in
theorem bk_X4_tokenOf_49 {Γ : Gm} {ω : Wd} {k N : Nat} {r : Int32} {M' : Mem} (C : Cx Γ cX4_tokenOf 1 RX4 ω 0 0 0) (hr : Γ.meth.sig.returnType = (some .int)) (M : Mem) (x0 : Int32) (h : fn_X4_tokenOf_49 N M x0 = some (r, M')) : JJ Γ (QF Γ ω k 0 0 (some (.int r)) M') 1 ω k M 0 0 49 [(0, .int x0)] [] := by
  unfold fn_X4_tokenOf_49 at h
  refine jv_iload_n C dX4_tokenOf_49 rfl 0 rfl ?_
  refine jv_bipush (v := 59) C dX4_tokenOf_50 (by decide) ?_
  refine jv_icmp_ne (tgt := 59) C dX4_tokenOf_52 (by decide) h (fun h => ?_) (fun h => ?_)
  · refine jv_iconst (v := 5) C dX4_tokenOf_59 (by decide) ?_
    exact jv_iret C hr dX4_tokenOf_60 h
  · refine jv_iconst (v := 4) C dX4_tokenOf_55 (by decide) ?_
    refine jv_goto (tgt := 60) C dX4_tokenOf_56 (by decide) ?_
    exact jv_iret C hr dX4_tokenOf_60 h
def fn_X4_tokenOf_35 (N : Nat) (M : Mem) (x0 : Int32) : Option (Int32 × Mem) :=
  if x0 < 48 then
    fn_X4_tokenOf_49 N M x0
  else
    if 57 < x0 then
      fn_X4_tokenOf_49 N M x0
    else
      some (3, M)
set_option maxRecDepth 100000 in
set_option maxHeartbeats 4000000 in
theorem bk_X4_tokenOf_35 {Γ : Gm} {ω : Wd} {k N : Nat} {r : Int32} {M' : Mem} (C : Cx Γ cX4_tokenOf 1 RX4 ω 0 0 0) (hr : Γ.meth.sig.returnType = (some .int)) (M : Mem) (x0 : Int32) (h : fn_X4_tokenOf_35 N M x0 = some (r, M')) : JJ Γ (QF Γ ω k 0 0 (some (.int r)) M') 1 ω k M 0 0 35 [(0, .int x0)] [] := by
  unfold fn_X4_tokenOf_35 at h
  refine jv_iload_n C dX4_tokenOf_35 rfl 0 rfl ?_
  refine jv_bipush (v := 48) C dX4_tokenOf_36 (by decide) ?_
  refine jv_icmp_lt (tgt := 49) C dX4_tokenOf_38 (by decide) h (fun h => ?_) (fun h => ?_)
  · exact bk_X4_tokenOf_49 C hr _ _ h
  · refine jv_iload_n C dX4_tokenOf_41 rfl 0 rfl ?_
    refine jv_bipush (v := 57) C dX4_tokenOf_42 (by decide) ?_
    refine jv_icmp_gt (tgt := 49) C dX4_tokenOf_44 (by decide) h (fun h => ?_) (fun h => ?_)
    · exact bk_X4_tokenOf_49 C hr _ _ h
    · refine jv_iconst (v := 3) C dX4_tokenOf_47 (by decide) ?_
      exact jv_iret C hr dX4_tokenOf_48 h
def fn_X4_tokenOf (N : Nat) (M : Mem) (x0 : Int32) : Option (Int32 × Mem) :=
  if x0 = (-1) then
    some (0, M)
  else
    if x0 = 32 then
      some (1, M)
    else
      if x0 = 10 then
        some (1, M)
      else
        if x0 < 97 then
          fn_X4_tokenOf_35 N M x0
        else
          if 122 < x0 then
            fn_X4_tokenOf_35 N M x0
          else
            some (2, M)
set_option maxRecDepth 100000 in
set_option maxHeartbeats 4000000 in
theorem ct_X4_tokenOf {l : Launch} {ω : Wd} {k N : Nat} {M : Mem} {x0 : Int32} {r : Int32} {M' : Mem} (h : fn_X4_tokenOf N M x0 = some (r, M')) : CM l ω k yX4_tokenOf cX4_tokenOf 1 (some .int) 0 0 0 [.int x0] M (some (.int r)) M' := by
  refine CM.of (by decide) (Nat.le_of_ble_eq_true rfl) fun Γ hl C hr hi => ?_
  subst hl
  unfold fn_X4_tokenOf at h
  refine jv_iload_n C dX4_tokenOf_0 rfl 0 rfl ?_
  refine jv_iconst (v := (-1)) C dX4_tokenOf_1 (by decide) ?_
  refine jv_icmp_ne (tgt := 7) C dX4_tokenOf_2 (by decide) h (fun h => ?_) (fun h => ?_)
  · refine jv_iload_n C dX4_tokenOf_7 rfl 0 rfl ?_
    refine jv_bipush (v := 32) C dX4_tokenOf_8 (by decide) ?_
    refine jv_icmp_eq (tgt := 19) C dX4_tokenOf_10 (by decide) h (fun h => ?_) (fun h => ?_)
    · refine jv_iconst (v := 1) C dX4_tokenOf_19 (by decide) ?_
      exact jv_iret C hr dX4_tokenOf_20 h
    · refine jv_iload_n C dX4_tokenOf_13 rfl 0 rfl ?_
      refine jv_bipush (v := 10) C dX4_tokenOf_14 (by decide) ?_
      refine jv_icmp_ne (tgt := 21) C dX4_tokenOf_16 (by decide) h (fun h => ?_) (fun h => ?_)
      · refine jv_iload_n C dX4_tokenOf_21 rfl 0 rfl ?_
        refine jv_bipush (v := 97) C dX4_tokenOf_22 (by decide) ?_
        refine jv_icmp_lt (tgt := 35) C dX4_tokenOf_24 (by decide) h (fun h => ?_) (fun h => ?_)
        · exact bk_X4_tokenOf_35 C hr _ _ h
        · refine jv_iload_n C dX4_tokenOf_27 rfl 0 rfl ?_
          refine jv_bipush (v := 122) C dX4_tokenOf_28 (by decide) ?_
          refine jv_icmp_gt (tgt := 35) C dX4_tokenOf_30 (by decide) h (fun h => ?_) (fun h => ?_)
          · exact bk_X4_tokenOf_35 C hr _ _ h
          · refine jv_iconst (v := 2) C dX4_tokenOf_33 (by decide) ?_
            exact jv_iret C hr dX4_tokenOf_34 h
      · refine jv_iconst (v := 1) C dX4_tokenOf_19 (by decide) ?_
        exact jv_iret C hr dX4_tokenOf_20 h
  · refine jv_iconst (v := 0) C dX4_tokenOf_5 (by decide) ?_
    exact jv_iret C hr dX4_tokenOf_6 h
theorem dX4_endOfRun_0 : decode cX4_endOfRun 0 = .ok (.iload_n 1, 1) := by decide +kernel
theorem dX4_endOfRun_1 : decode cX4_endOfRun 1 = .ok (.istore_n 3, 1) := by decide +kernel
theorem dX4_endOfRun_2 : decode cX4_endOfRun 2 = .ok (.iload_n 3, 1) := by decide +kernel
theorem dX4_endOfRun_3 : decode cX4_endOfRun 3 = .ok (.aload_n 0, 1) := by decide +kernel
theorem dX4_endOfRun_4 : decode cX4_endOfRun 4 = .ok (.getfield 15, 3) := by decide +kernel
theorem dX4_endOfRun_7 : decode cX4_endOfRun 7 = .ok (.if_icmp .ge 23, 3) := by decide +kernel
theorem dX4_endOfRun_10 : decode cX4_endOfRun 10 = .ok (.aload_n 0, 1) := by decide +kernel
theorem dX4_endOfRun_11 : decode cX4_endOfRun 11 = .ok (.iload_n 3, 1) := by decide +kernel
theorem dX4_endOfRun_12 : decode cX4_endOfRun 12 = .ok (.invokevirtual 139, 3) := by decide +kernel
theorem dX4_endOfRun_15 : decode cX4_endOfRun 15 = .ok (.invokestatic 143, 3) := by decide +kernel
theorem dX4_endOfRun_18 : decode cX4_endOfRun 18 = .ok (.iload_n 2, 1) := by decide +kernel
theorem dX4_endOfRun_19 : decode cX4_endOfRun 19 = .ok (.if_icmp .eq 5, 3) := by decide +kernel
theorem dX4_endOfRun_22 : decode cX4_endOfRun 22 = .ok (.iload_n 3, 1) := by decide +kernel
theorem dX4_endOfRun_23 : decode cX4_endOfRun 23 = .ok (.ireturn, 1) := by decide +kernel
theorem dX4_endOfRun_24 : decode cX4_endOfRun 24 = .ok (.iinc 3 1, 3) := by decide +kernel
theorem dX4_endOfRun_27 : decode cX4_endOfRun 27 = .ok (.goto (-25), 3) := by decide +kernel
theorem dX4_endOfRun_30 : decode cX4_endOfRun 30 = .ok (.aload_n 0, 1) := by decide +kernel
theorem dX4_endOfRun_31 : decode cX4_endOfRun 31 = .ok (.getfield 15, 3) := by decide +kernel
theorem dX4_endOfRun_34 : decode cX4_endOfRun 34 = .ok (.ireturn, 1) := by decide +kernel
def fn_X4_endOfRun_2 (N : Nat) : Nat → Mem → Nat → Int32 → Int32 → Option (Int32 × Mem)
  | 0, _, _, _, _ => none
  | n + 1, M, a0, x2, x3 =>
    (mm_gI M a0 4 1).bind fun v1 =>
    if v1 ≤ x3 then
      (mm_gI M a0 4 1).bind fun v2 =>
      some (v2, M)
    else
      (mm_ck M a0 4).bind fun _ => mm_b2 (fn_X4_byteAt N M a0 x3) fun v4 M3 =>
      mm_b2 (fn_X4_tokenOf N M3 v4) fun v6 M5 =>
      if v6 = x2 then
        fn_X4_endOfRun_2 N n M5 a0 x2 ((x3 + 1))
      else
        some (x3, M5)
set_option maxRecDepth 100000 in
set_option maxHeartbeats 4000000 in
theorem bk_X4_endOfRun_2 {Γ : Gm} {ω : Wd} {k N : Nat} {r : Int32} {M' : Mem} (C : Cx Γ cX4_endOfRun 4 RX4 ω 1 0 0) (hr : Γ.meth.sig.returnType = (some .int)) : ∀ (n : Nat) (M : Mem) (a0 : Nat) (x2 : Int32) (x3 : Int32), fn_X4_endOfRun_2 N n M a0 x2 x3 = some (r, M') → JJ Γ (QF Γ ω k 0 0 (some (.int r)) M') 4 ω k M 0 0 2 [(0, .ref a0), (2, .int x2), (3, .int x3)] [] := by
  intro n
  induction n with
  | zero => intro M a0 x2 x3 h; exact jv_no h
  | succ n ih =>
    intro M a0 x2 x3 h
    rw [fn_X4_endOfRun_2.eq_2] at h
    refine jv_iload_n C dX4_endOfRun_2 rfl 2 rfl ?_
    refine jv_aload_n C dX4_endOfRun_3 rfl 0 rfl ?_
    refine jv_getI C fa_X4_15 dX4_endOfRun_4 h (fun v1 h => ?_)
    refine jv_icmp_ge (tgt := 30) C dX4_endOfRun_7 (by decide) h (fun h => ?_) (fun h => ?_)
    · refine jv_aload_n C dX4_endOfRun_30 rfl 0 rfl ?_
      refine jv_getI C fa_X4_15 dX4_endOfRun_31 h (fun v2 h => ?_)
      exact jv_iret C hr dX4_endOfRun_34 h
    · refine jv_aload_n C dX4_endOfRun_10 rfl 0 rfl ?_
      refine jv_iload_n C dX4_endOfRun_11 rfl 2 rfl ?_
      refine jv_vI0 (As := [.int x3]) C lk_X4_139 rfl dX4_endOfRun_12 rfl rfl (by decide) (by decide) (by decide) (Nat.le_of_ble_eq_true rfl) h (fun _ _ h => ct_X4_byteAt h) (fun v4 M3 h => ?_)
      refine jv_sI0 (As := [.int v4]) C lk_X4_143 dX4_endOfRun_15 rfl rfl (by decide) (by decide) (by decide) (Nat.le_of_ble_eq_true rfl) h (fun _ _ h => ct_X4_tokenOf h) (fun v6 M5 h => ?_)
      refine jv_iload_n C dX4_endOfRun_18 rfl 1 rfl ?_
      refine jv_icmp_eq (tgt := 24) C dX4_endOfRun_19 (by decide) h (fun h => ?_) (fun h => ?_)
      · refine jv_iinc (v := 1) (lv' := [(3, .int (x3 + 1)), (0, .ref a0), (2, .int x2)]) C dX4_endOfRun_24 2 rfl (by decide) (by decide) rfl ?_
        refine jv_goto (tgt := 2) C dX4_endOfRun_27 (by decide) ?_
        refine jv_sub [1, 2, 0] rfl ?_
        exact ih _ _ _ _ h
      · refine jv_iload_n C dX4_endOfRun_22 rfl 2 rfl ?_
        exact jv_iret C hr dX4_endOfRun_23 h
def fn_X4_endOfRun (N : Nat) (M : Mem) (a0 : Nat) (x1 : Int32) (x2 : Int32) : Option (Int32 × Mem) :=
  fn_X4_endOfRun_2 N N M a0 x2 x1
set_option maxRecDepth 100000 in
set_option maxHeartbeats 4000000 in
theorem ct_X4_endOfRun {l : Launch} {ω : Wd} {k N : Nat} {M : Mem} {a0 : Nat} {x1 : Int32} {x2 : Int32} {r : Int32} {M' : Mem} (h : fn_X4_endOfRun N M a0 x1 x2 = some (r, M')) : CM l ω k yX4_endOfRun cX4_endOfRun 4 (some .int) 1 0 0 [.ref a0, .int x1, .int x2] M (some (.int r)) M' := by
  refine CM.of (by decide) (Nat.le_of_ble_eq_true rfl) fun Γ hl C hr hi => ?_
  subst hl
  unfold fn_X4_endOfRun at h
  refine jv_iload_n C dX4_endOfRun_0 rfl 1 rfl ?_
  refine jv_istore_n (lv' := [(3, .int x1), (0, .ref a0), (1, .int x1), (2, .int x2)]) C dX4_endOfRun_1 rfl (by decide) rfl ?_
  refine jv_sub [1, 3, 0] rfl ?_
  exact bk_X4_endOfRun_2 C hr _ _ _ _ _ h
theorem dX4_failIf_0 : decode cX4_failIf 0 = .ok (.iload_n 1, 1) := by decide +kernel
theorem dX4_failIf_1 : decode cX4_failIf 1 = .ok (.ifCond .eq 23, 3) := by decide +kernel
theorem dX4_failIf_4 : decode cX4_failIf 4 = .ok (.aload_n 0, 1) := by decide +kernel
theorem dX4_failIf_5 : decode cX4_failIf 5 = .ok (.getfield 22, 3) := by decide +kernel
theorem dX4_failIf_8 : decode cX4_failIf 8 = .ok (.ifCond .ne 16, 3) := by decide +kernel
theorem dX4_failIf_11 : decode cX4_failIf 11 = .ok (.aload_n 0, 1) := by decide +kernel
theorem dX4_failIf_12 : decode cX4_failIf 12 = .ok (.bipush 8, 2) := by decide +kernel
theorem dX4_failIf_14 : decode cX4_failIf 14 = .ok (.aload_n 0, 1) := by decide +kernel
theorem dX4_failIf_15 : decode cX4_failIf 15 = .ok (.getfield 133, 3) := by decide +kernel
theorem dX4_failIf_18 : decode cX4_failIf 18 = .ok (.imul, 1) := by decide +kernel
theorem dX4_failIf_19 : decode cX4_failIf 19 = .ok (.iload_n 2, 1) := by decide +kernel
theorem dX4_failIf_20 : decode cX4_failIf 20 = .ok (.iadd, 1) := by decide +kernel
theorem dX4_failIf_21 : decode cX4_failIf 21 = .ok (.putfield 22, 3) := by decide +kernel
theorem dX4_failIf_24 : decode cX4_failIf 24 = .ok (.return_, 1) := by decide +kernel
def fn_X4_failIf (N : Nat) (M : Mem) (a0 : Nat) (x1 : Int32) (x2 : Int32) : Option (Unit × Mem) :=
  if x1 = 0 then
    some ((), M)
  else
    (mm_gI M a0 4 5).bind fun v1 =>
    if v1 = 0 then
      (mm_gI M a0 4 3).bind fun v2 =>
      (mm_pV M a0 4 5 (.int ((8 * v2) + x2))).bind fun M3 =>
      some ((), M3)
    else
      some ((), M)
set_option maxRecDepth 100000 in
set_option maxHeartbeats 4000000 in
theorem ct_X4_failIf {l : Launch} {ω : Wd} {k N : Nat} {M : Mem} {a0 : Nat} {x1 : Int32} {x2 : Int32} {r : Unit} {M' : Mem} (h : fn_X4_failIf N M a0 x1 x2 = some (r, M')) : CM l ω k yX4_failIf cX4_failIf 3 none 0 0 0 [.ref a0, .int x1, .int x2] M none M' := by
  refine CM.of (by decide) (Nat.le_of_ble_eq_true rfl) fun Γ hl C hr hi => ?_
  subst hl
  unfold fn_X4_failIf at h
  refine jv_iload_n C dX4_failIf_0 rfl 1 rfl ?_
  refine jv_if_eq (tgt := 24) C dX4_failIf_1 (by decide) h (fun h => ?_) (fun h => ?_)
  · exact jv_vret C hr dX4_failIf_24 h
  · refine jv_aload_n C dX4_failIf_4 rfl 0 rfl ?_
    refine jv_getI C fa_X4_22 dX4_failIf_5 h (fun v1 h => ?_)
    refine jv_if_ne (tgt := 24) C dX4_failIf_8 (by decide) h (fun h => ?_) (fun h => ?_)
    · exact jv_vret C hr dX4_failIf_24 h
    · refine jv_aload_n C dX4_failIf_11 rfl 0 rfl ?_
      refine jv_bipush (v := 8) C dX4_failIf_12 (by decide) ?_
      refine jv_aload_n C dX4_failIf_14 rfl 0 rfl ?_
      refine jv_getI C fa_X4_133 dX4_failIf_15 h (fun v2 h => ?_)
      refine jv_imul C dX4_failIf_18 ?_
      refine jv_iload_n C dX4_failIf_19 rfl 2 rfl ?_
      refine jv_iadd C dX4_failIf_20 ?_
      refine jv_putI C fp_X4_22 dX4_failIf_21 h (fun M3 h => ?_)
      exact jv_vret C hr dX4_failIf_24 h
theorem dX4_readToken_0 : decode cX4_readToken 0 = .ok (.aload_n 0, 1) := by decide +kernel
theorem dX4_readToken_1 : decode cX4_readToken 1 = .ok (.aload_n 0, 1) := by decide +kernel
theorem dX4_readToken_2 : decode cX4_readToken 2 = .ok (.aload_n 0, 1) := by decide +kernel
theorem dX4_readToken_3 : decode cX4_readToken 3 = .ok (.getfield 19, 3) := by decide +kernel
theorem dX4_readToken_6 : decode cX4_readToken 6 = .ok (.iconst 1, 1) := by decide +kernel
theorem dX4_readToken_7 : decode cX4_readToken 7 = .ok (.invokevirtual 136, 3) := by decide +kernel
theorem dX4_readToken_10 : decode cX4_readToken 10 = .ok (.putfield 133, 3) := by decide +kernel
theorem dX4_readToken_13 : decode cX4_readToken 13 = .ok (.aload_n 0, 1) := by decide +kernel
theorem dX4_readToken_14 : decode cX4_readToken 14 = .ok (.aload_n 0, 1) := by decide +kernel
theorem dX4_readToken_15 : decode cX4_readToken 15 = .ok (.aload_n 0, 1) := by decide +kernel
theorem dX4_readToken_16 : decode cX4_readToken 16 = .ok (.getfield 133, 3) := by decide +kernel
theorem dX4_readToken_19 : decode cX4_readToken 19 = .ok (.invokevirtual 139, 3) := by decide +kernel
theorem dX4_readToken_22 : decode cX4_readToken 22 = .ok (.invokestatic 143, 3) := by decide +kernel
theorem dX4_readToken_25 : decode cX4_readToken 25 = .ok (.putfield 38, 3) := by decide +kernel
theorem dX4_readToken_28 : decode cX4_readToken 28 = .ok (.aload_n 0, 1) := by decide +kernel
theorem dX4_readToken_29 : decode cX4_readToken 29 = .ok (.aload_n 0, 1) := by decide +kernel
theorem dX4_readToken_30 : decode cX4_readToken 30 = .ok (.getfield 133, 3) := by decide +kernel
theorem dX4_readToken_33 : decode cX4_readToken 33 = .ok (.iconst 1, 1) := by decide +kernel
theorem dX4_readToken_34 : decode cX4_readToken 34 = .ok (.iadd, 1) := by decide +kernel
theorem dX4_readToken_35 : decode cX4_readToken 35 = .ok (.putfield 19, 3) := by decide +kernel
theorem dX4_readToken_38 : decode cX4_readToken 38 = .ok (.aload_n 0, 1) := by decide +kernel
theorem dX4_readToken_39 : decode cX4_readToken 39 = .ok (.getfield 38, 3) := by decide +kernel
theorem dX4_readToken_42 : decode cX4_readToken 42 = .ok (.iconst 2, 1) := by decide +kernel
theorem dX4_readToken_43 : decode cX4_readToken 43 = .ok (.if_icmp .eq 11, 3) := by decide +kernel
theorem dX4_readToken_46 : decode cX4_readToken 46 = .ok (.aload_n 0, 1) := by decide +kernel
theorem dX4_readToken_47 : decode cX4_readToken 47 = .ok (.getfield 38, 3) := by decide +kernel
theorem dX4_readToken_50 : decode cX4_readToken 50 = .ok (.iconst 3, 1) := by decide +kernel
theorem dX4_readToken_51 : decode cX4_readToken 51 = .ok (.if_icmp .ne 50, 3) := by decide +kernel
theorem dX4_readToken_54 : decode cX4_readToken 54 = .ok (.aload_n 0, 1) := by decide +kernel
theorem dX4_readToken_55 : decode cX4_readToken 55 = .ok (.aload_n 0, 1) := by decide +kernel
theorem dX4_readToken_56 : decode cX4_readToken 56 = .ok (.aload_n 0, 1) := by decide +kernel
theorem dX4_readToken_57 : decode cX4_readToken 57 = .ok (.getfield 133, 3) := by decide +kernel
theorem dX4_readToken_60 : decode cX4_readToken 60 = .ok (.aload_n 0, 1) := by decide +kernel
theorem dX4_readToken_61 : decode cX4_readToken 61 = .ok (.getfield 38, 3) := by decide +kernel
theorem dX4_readToken_64 : decode cX4_readToken 64 = .ok (.invokevirtual 136, 3) := by decide +kernel
theorem dX4_readToken_67 : decode cX4_readToken 67 = .ok (.putfield 19, 3) := by decide +kernel
theorem dX4_readToken_70 : decode cX4_readToken 70 = .ok (.aload_n 0, 1) := by decide +kernel
theorem dX4_readToken_71 : decode cX4_readToken 71 = .ok (.getfield 19, 3) := by decide +kernel
theorem dX4_readToken_74 : decode cX4_readToken 74 = .ok (.aload_n 0, 1) := by decide +kernel
theorem dX4_readToken_75 : decode cX4_readToken 75 = .ok (.getfield 133, 3) := by decide +kernel
theorem dX4_readToken_78 : decode cX4_readToken 78 = .ok (.isub, 1) := by decide +kernel
theorem dX4_readToken_79 : decode cX4_readToken 79 = .ok (.aload_n 0, 1) := by decide +kernel
theorem dX4_readToken_80 : decode cX4_readToken 80 = .ok (.getfield 38, 3) := by decide +kernel
theorem dX4_readToken_83 : decode cX4_readToken 83 = .ok (.iconst 2, 1) := by decide +kernel
theorem dX4_readToken_84 : decode cX4_readToken 84 = .ok (.if_icmp .ne 8, 3) := by decide +kernel
theorem dX4_readToken_87 : decode cX4_readToken 87 = .ok (.bipush 6, 2) := by decide +kernel
theorem dX4_readToken_89 : decode cX4_readToken 89 = .ok (.goto 4, 3) := by decide +kernel
theorem dX4_readToken_92 : decode cX4_readToken 92 = .ok (.iconst 4, 1) := by decide +kernel
theorem dX4_readToken_93 : decode cX4_readToken 93 = .ok (.if_icmp .le 8, 3) := by decide +kernel
theorem dX4_readToken_96 : decode cX4_readToken 96 = .ok (.aload_n 0, 1) := by decide +kernel
theorem dX4_readToken_97 : decode cX4_readToken 97 = .ok (.iconst 5, 1) := by decide +kernel
theorem dX4_readToken_98 : decode cX4_readToken 98 = .ok (.putfield 38, 3) := by decide +kernel
theorem dX4_readToken_101 : decode cX4_readToken 101 = .ok (.return_, 1) := by decide +kernel
def fn_X4_readToken_93 (N : Nat) (M : Mem) (a0 : Nat) (s0 : Int32) (s1 : Int32) : Option (Unit × Mem) :=
  if s1 ≤ s0 then
    some ((), M)
  else
    (mm_pV M a0 4 2 (.int 5)).bind fun M1 =>
    some ((), M1)
set_option maxRecDepth 100000 in
set_option maxHeartbeats 4000000 in
theorem bk_X4_readToken_93 {Γ : Gm} {ω : Wd} {k N : Nat} {r : Unit} {M' : Mem} (C : Cx Γ cX4_readToken 1 RX4 ω 2 0 0) (hr : Γ.meth.sig.returnType = none) (M : Mem) (a0 : Nat) (s0 : Int32) (s1 : Int32) (h : fn_X4_readToken_93 N M a0 s0 s1 = some (r, M')) : JJ Γ (QF Γ ω k 0 0 none M') 1 ω k M 0 0 93 [(0, .ref a0)] [.int s0, .int s1] := by
  unfold fn_X4_readToken_93 at h
  refine jv_icmp_le (tgt := 101) C dX4_readToken_93 (by decide) h (fun h => ?_) (fun h => ?_)
  · exact jv_vret C hr dX4_readToken_101 h
  · refine jv_aload_n C dX4_readToken_96 rfl 0 rfl ?_
    refine jv_iconst (v := 5) C dX4_readToken_97 (by decide) ?_
    refine jv_putI C fp_X4_38 dX4_readToken_98 h (fun M1 h => ?_)
    exact jv_vret C hr dX4_readToken_101 h
def fn_X4_readToken_54 (N : Nat) (M : Mem) (a0 : Nat) : Option (Unit × Mem) :=
  (mm_gI M a0 4 3).bind fun v1 =>
  (mm_gI M a0 4 2).bind fun v2 =>
  (mm_ck M a0 4).bind fun _ => mm_b2 (fn_X4_endOfRun N M a0 v1 v2) fun v4 M3 =>
  (mm_pV M3 a0 4 4 (.int v4)).bind fun M5 =>
  (mm_gI M5 a0 4 4).bind fun v6 =>
  (mm_gI M5 a0 4 3).bind fun v7 =>
  (mm_gI M5 a0 4 2).bind fun v8 =>
  if v8 = 2 then
    fn_X4_readToken_93 N M5 a0 6 ((v6 - v7))
  else
    fn_X4_readToken_93 N M5 a0 4 ((v6 - v7))
set_option maxRecDepth 100000 in
set_option maxHeartbeats 4000000 in
theorem bk_X4_readToken_54 {Γ : Gm} {ω : Wd} {k N : Nat} {r : Unit} {M' : Mem} (C : Cx Γ cX4_readToken 1 RX4 ω 2 0 0) (hr : Γ.meth.sig.returnType = none) (M : Mem) (a0 : Nat) (h : fn_X4_readToken_54 N M a0 = some (r, M')) : JJ Γ (QF Γ ω k 0 0 none M') 1 ω k M 0 0 54 [(0, .ref a0)] [] := by
  unfold fn_X4_readToken_54 at h
  refine jv_aload_n C dX4_readToken_54 rfl 0 rfl ?_
  refine jv_aload_n C dX4_readToken_55 rfl 0 rfl ?_
  refine jv_aload_n C dX4_readToken_56 rfl 0 rfl ?_
  refine jv_getI C fa_X4_133 dX4_readToken_57 h (fun v1 h => ?_)
  refine jv_aload_n C dX4_readToken_60 rfl 0 rfl ?_
  refine jv_getI C fa_X4_38 dX4_readToken_61 h (fun v2 h => ?_)
  refine jv_vI0 (As := [.int v1, .int v2]) C lk_X4_136 rfl dX4_readToken_64 rfl rfl (by decide) (by decide) (by decide) (Nat.le_of_ble_eq_true rfl) h (fun _ _ h => ct_X4_endOfRun h) (fun v4 M3 h => ?_)
  refine jv_putI C fp_X4_19 dX4_readToken_67 h (fun M5 h => ?_)
  refine jv_aload_n C dX4_readToken_70 rfl 0 rfl ?_
  refine jv_getI C fa_X4_19 dX4_readToken_71 h (fun v6 h => ?_)
  refine jv_aload_n C dX4_readToken_74 rfl 0 rfl ?_
  refine jv_getI C fa_X4_133 dX4_readToken_75 h (fun v7 h => ?_)
  refine jv_isub C dX4_readToken_78 ?_
  refine jv_aload_n C dX4_readToken_79 rfl 0 rfl ?_
  refine jv_getI C fa_X4_38 dX4_readToken_80 h (fun v8 h => ?_)
  refine jv_iconst (v := 2) C dX4_readToken_83 (by decide) ?_
  refine jv_icmp_ne (tgt := 92) C dX4_readToken_84 (by decide) h (fun h => ?_) (fun h => ?_)
  · refine jv_iconst (v := 4) C dX4_readToken_92 (by decide) ?_
    exact bk_X4_readToken_93 C hr _ _ _ _ h
  · refine jv_bipush (v := 6) C dX4_readToken_87 (by decide) ?_
    refine jv_goto (tgt := 93) C dX4_readToken_89 (by decide) ?_
    exact bk_X4_readToken_93 C hr _ _ _ _ h
def fn_X4_readToken (N : Nat) (M : Mem) (a0 : Nat) : Option (Unit × Mem) :=
  (mm_gI M a0 4 4).bind fun v1 =>
  (mm_ck M a0 4).bind fun _ => mm_b2 (fn_X4_endOfRun N M a0 v1 1) fun v3 M2 =>
  (mm_pV M2 a0 4 3 (.int v3)).bind fun M4 =>
  (mm_gI M4 a0 4 3).bind fun v5 =>
  (mm_ck M4 a0 4).bind fun _ => mm_b2 (fn_X4_byteAt N M4 a0 v5) fun v7 M6 =>
  mm_b2 (fn_X4_tokenOf N M6 v7) fun v9 M8 =>
  (mm_pV M8 a0 4 2 (.int v9)).bind fun M10 =>
  (mm_gI M10 a0 4 3).bind fun v11 =>
  (mm_pV M10 a0 4 4 (.int (v11 + 1))).bind fun M12 =>
  (mm_gI M12 a0 4 2).bind fun v13 =>
  if v13 = 2 then
    fn_X4_readToken_54 N M12 a0
  else
    (mm_gI M12 a0 4 2).bind fun v14 =>
    if v14 = 3 then
      fn_X4_readToken_54 N M12 a0
    else
      some ((), M12)
set_option maxRecDepth 100000 in
set_option maxHeartbeats 4000000 in
theorem ct_X4_readToken {l : Launch} {ω : Wd} {k N : Nat} {M : Mem} {a0 : Nat} {r : Unit} {M' : Mem} (h : fn_X4_readToken N M a0 = some (r, M')) : CM l ω k yX4_readToken cX4_readToken 1 none 2 0 0 [.ref a0] M none M' := by
  refine CM.of (by decide) (Nat.le_of_ble_eq_true rfl) fun Γ hl C hr hi => ?_
  subst hl
  unfold fn_X4_readToken at h
  refine jv_aload_n C dX4_readToken_0 rfl 0 rfl ?_
  refine jv_aload_n C dX4_readToken_1 rfl 0 rfl ?_
  refine jv_aload_n C dX4_readToken_2 rfl 0 rfl ?_
  refine jv_getI C fa_X4_19 dX4_readToken_3 h (fun v1 h => ?_)
  refine jv_iconst (v := 1) C dX4_readToken_6 (by decide) ?_
  refine jv_vI0 (As := [.int v1, .int 1]) C lk_X4_136 rfl dX4_readToken_7 rfl rfl (by decide) (by decide) (by decide) (Nat.le_of_ble_eq_true rfl) h (fun _ _ h => ct_X4_endOfRun h) (fun v3 M2 h => ?_)
  refine jv_putI C fp_X4_133 dX4_readToken_10 h (fun M4 h => ?_)
  refine jv_aload_n C dX4_readToken_13 rfl 0 rfl ?_
  refine jv_aload_n C dX4_readToken_14 rfl 0 rfl ?_
  refine jv_aload_n C dX4_readToken_15 rfl 0 rfl ?_
  refine jv_getI C fa_X4_133 dX4_readToken_16 h (fun v5 h => ?_)
  refine jv_vI0 (As := [.int v5]) C lk_X4_139 rfl dX4_readToken_19 rfl rfl (by decide) (by decide) (by decide) (Nat.le_of_ble_eq_true rfl) h (fun _ _ h => ct_X4_byteAt h) (fun v7 M6 h => ?_)
  refine jv_sI0 (As := [.int v7]) C lk_X4_143 dX4_readToken_22 rfl rfl (by decide) (by decide) (by decide) (Nat.le_of_ble_eq_true rfl) h (fun _ _ h => ct_X4_tokenOf h) (fun v9 M8 h => ?_)
  refine jv_putI C fp_X4_38 dX4_readToken_25 h (fun M10 h => ?_)
  refine jv_aload_n C dX4_readToken_28 rfl 0 rfl ?_
  refine jv_aload_n C dX4_readToken_29 rfl 0 rfl ?_
  refine jv_getI C fa_X4_133 dX4_readToken_30 h (fun v11 h => ?_)
  refine jv_iconst (v := 1) C dX4_readToken_33 (by decide) ?_
  refine jv_iadd C dX4_readToken_34 ?_
  refine jv_putI C fp_X4_19 dX4_readToken_35 h (fun M12 h => ?_)
  refine jv_aload_n C dX4_readToken_38 rfl 0 rfl ?_
  refine jv_getI C fa_X4_38 dX4_readToken_39 h (fun v13 h => ?_)
  refine jv_iconst (v := 2) C dX4_readToken_42 (by decide) ?_
  refine jv_icmp_eq (tgt := 54) C dX4_readToken_43 (by decide) h (fun h => ?_) (fun h => ?_)
  · exact bk_X4_readToken_54 C hr _ _ h
  · refine jv_aload_n C dX4_readToken_46 rfl 0 rfl ?_
    refine jv_getI C fa_X4_38 dX4_readToken_47 h (fun v14 h => ?_)
    refine jv_iconst (v := 3) C dX4_readToken_50 (by decide) ?_
    refine jv_icmp_ne (tgt := 101) C dX4_readToken_51 (by decide) h (fun h => ?_) (fun h => ?_)
    · exact jv_vret C hr dX4_readToken_101 h
    · exact bk_X4_readToken_54 C hr _ _ h
theorem dX4_hasStatement_0 : decode cX4_hasStatement 0 = .ok (.aload_n 0, 1) := by decide +kernel
theorem dX4_hasStatement_1 : decode cX4_hasStatement 1 = .ok (.getfield 22, 3) := by decide +kernel
theorem dX4_hasStatement_4 : decode cX4_hasStatement 4 = .ok (.ifCond .eq 5, 3) := by decide +kernel
theorem dX4_hasStatement_7 : decode cX4_hasStatement 7 = .ok (.iconst 0, 1) := by decide +kernel
theorem dX4_hasStatement_8 : decode cX4_hasStatement 8 = .ok (.ireturn, 1) := by decide +kernel
theorem dX4_hasStatement_9 : decode cX4_hasStatement 9 = .ok (.aload_n 0, 1) := by decide +kernel
theorem dX4_hasStatement_10 : decode cX4_hasStatement 10 = .ok (.invokevirtual 35, 3) := by decide +kernel
theorem dX4_hasStatement_13 : decode cX4_hasStatement 13 = .ok (.aload_n 0, 1) := by decide +kernel
theorem dX4_hasStatement_14 : decode cX4_hasStatement 14 = .ok (.getfield 38, 3) := by decide +kernel
theorem dX4_hasStatement_17 : decode cX4_hasStatement 17 = .ok (.ifCond .eq 7, 3) := by decide +kernel
theorem dX4_hasStatement_20 : decode cX4_hasStatement 20 = .ok (.iconst 1, 1) := by decide +kernel
theorem dX4_hasStatement_21 : decode cX4_hasStatement 21 = .ok (.goto 4, 3) := by decide +kernel
theorem dX4_hasStatement_24 : decode cX4_hasStatement 24 = .ok (.iconst 0, 1) := by decide +kernel
theorem dX4_hasStatement_25 : decode cX4_hasStatement 25 = .ok (.ireturn, 1) := by decide +kernel
def fn_X4_hasStatement (N : Nat) (M : Mem) (a0 : Nat) : Option (Int32 × Mem) :=
  (mm_gI M a0 4 5).bind fun v1 =>
  if v1 = 0 then
    (mm_ck M a0 4).bind fun _ => mm_b2 (fn_X4_readToken N M a0) fun _ M2 =>
    (mm_gI M2 a0 4 2).bind fun v3 =>
    if v3 = 0 then
      some (0, M2)
    else
      some (1, M2)
  else
    some (0, M)
set_option maxRecDepth 100000 in
set_option maxHeartbeats 4000000 in
theorem ct_X4_hasStatement {l : Launch} {ω : Wd} {k N : Nat} {M : Mem} {a0 : Nat} {r : Int32} {M' : Mem} (h : fn_X4_hasStatement N M a0 = some (r, M')) : CM l ω k yX4_hasStatement cX4_hasStatement 1 (some .boolean) 3 0 0 [.ref a0] M (some (.int r)) M' := by
  refine CM.of (by decide) (Nat.le_of_ble_eq_true rfl) fun Γ hl C hr hi => ?_
  subst hl
  unfold fn_X4_hasStatement at h
  refine jv_aload_n C dX4_hasStatement_0 rfl 0 rfl ?_
  refine jv_getI C fa_X4_22 dX4_hasStatement_1 h (fun v1 h => ?_)
  refine jv_if_eq (tgt := 9) C dX4_hasStatement_4 (by decide) h (fun h => ?_) (fun h => ?_)
  · refine jv_aload_n C dX4_hasStatement_9 rfl 0 rfl ?_
    refine jv_vV0 (As := []) C lk_X4_35 rfl dX4_hasStatement_10 rfl rfl (by decide) (by decide) (by decide) (Nat.le_of_ble_eq_true rfl) h (fun _ _ h => ct_X4_readToken h) (fun _ M2 h => ?_)
    refine jv_aload_n C dX4_hasStatement_13 rfl 0 rfl ?_
    refine jv_getI C fa_X4_38 dX4_hasStatement_14 h (fun v3 h => ?_)
    refine jv_if_eq (tgt := 24) C dX4_hasStatement_17 (by decide) h (fun h => ?_) (fun h => ?_)
    · refine jv_iconst (v := 0) C dX4_hasStatement_24 (by decide) ?_
      exact jv_zretc C hr (Or.inl rfl) dX4_hasStatement_25 h
    · refine jv_iconst (v := 1) C dX4_hasStatement_20 (by decide) ?_
      refine jv_goto (tgt := 25) C dX4_hasStatement_21 (by decide) ?_
      exact jv_zretc C hr (Or.inr rfl) dX4_hasStatement_25 h
  · refine jv_iconst (v := 0) C dX4_hasStatement_7 (by decide) ?_
    exact jv_zretc C hr (Or.inl rfl) dX4_hasStatement_8 h
theorem dX4_init_0 : decode cX4_init 0 = .ok (.aload_n 0, 1) := by decide +kernel
theorem dX4_init_1 : decode cX4_init 1 = .ok (.invokespecial 3, 3) := by decide +kernel
theorem dX4_init_4 : decode cX4_init 4 = .ok (.aload_n 0, 1) := by decide +kernel
theorem dX4_init_5 : decode cX4_init 5 = .ok (.iconst 0, 1) := by decide +kernel
theorem dX4_init_6 : decode cX4_init 6 = .ok (.newarray .byte, 2) := by decide +kernel
theorem dX4_init_8 : decode cX4_init 8 = .ok (.putfield 9, 3) := by decide +kernel
theorem dX4_init_11 : decode cX4_init 11 = .ok (.return_, 1) := by decide +kernel
def fn_X4_init (N : Nat) (M : Mem) (a0 : Nat) : Option (Unit × Mem) :=
  mm_b2 (mm_nA M 0 0 (fun N => .inl (2, N, .inl (fun _ => 0)))) fun b1 M2 =>
  (mm_pV M2 a0 4 0 (.ref b1)).bind fun M3 =>
  some ((), M3)
set_option maxRecDepth 100000 in
set_option maxHeartbeats 4000000 in
theorem ct_X4_init {l : Launch} {ω : Wd} {N : Nat} {M : Mem} {a0 : Nat} {r : Unit} {M' : Mem} (h : fn_X4_init N M a0 = some (r, M')) : CM l ω 0 yX4_init cX4_init 1 none 1 1 0 [.ref a0] M none M' := by
  refine CM.of (by decide) (Nat.le_of_ble_eq_true rfl) fun Γ hl C hr hi => ?_
  subst hl
  unfold fn_X4_init at h
  refine jv_aload_n C dX4_init_0 rfl 0 rfl ?_
  refine jv_objInit C gw_136 gw_129 gw_130 (Nat.le_of_ble_eq_true rfl) dX4_init_1 ?_
  refine jv_aload_n C dX4_init_4 rfl 0 rfl ?_
  refine jv_iconst (v := 0) C dX4_init_5 (by decide) ?_
  refine jv_newa2 (lim := 0) C gw_166 (by decide) (by decide) (by decide) dX4_init_6 h (fun b1 M2 h => ?_)
  refine jv_putR C fp_X4_9 dX4_init_8 (fun _ => ⟨rfl, rfl⟩) h (fun M3 h => ?_)
  exact jv_vret C hr dX4_init_11 h
theorem dX4_isWord_0 : decode cX4_isWord 0 = .ok (.aload_n 0, 1) := by decide +kernel
theorem dX4_isWord_1 : decode cX4_isWord 1 = .ok (.getfield 38, 3) := by decide +kernel
theorem dX4_isWord_4 : decode cX4_isWord 4 = .ok (.iconst 2, 1) := by decide +kernel
theorem dX4_isWord_5 : decode cX4_isWord 5 = .ok (.if_icmp .ne 19, 3) := by decide +kernel
theorem dX4_isWord_8 : decode cX4_isWord 8 = .ok (.aload_n 0, 1) := by decide +kernel
theorem dX4_isWord_9 : decode cX4_isWord 9 = .ok (.getfield 19, 3) := by decide +kernel
theorem dX4_isWord_12 : decode cX4_isWord 12 = .ok (.aload_n 0, 1) := by decide +kernel
theorem dX4_isWord_13 : decode cX4_isWord 13 = .ok (.getfield 133, 3) := by decide +kernel
theorem dX4_isWord_16 : decode cX4_isWord 16 = .ok (.isub, 1) := by decide +kernel
theorem dX4_isWord_17 : decode cX4_isWord 17 = .ok (.aload_n 1, 1) := by decide +kernel
theorem dX4_isWord_18 : decode cX4_isWord 18 = .ok (.invokevirtual 146, 3) := by decide +kernel
theorem dX4_isWord_21 : decode cX4_isWord 21 = .ok (.if_icmp .eq 5, 3) := by decide +kernel
theorem dX4_isWord_24 : decode cX4_isWord 24 = .ok (.iconst 0, 1) := by decide +kernel
theorem dX4_isWord_25 : decode cX4_isWord 25 = .ok (.ireturn, 1) := by decide +kernel
theorem dX4_isWord_26 : decode cX4_isWord 26 = .ok (.iconst 0, 1) := by decide +kernel
theorem dX4_isWord_27 : decode cX4_isWord 27 = .ok (.istore_n 2, 1) := by decide +kernel
theorem dX4_isWord_28 : decode cX4_isWord 28 = .ok (.iload_n 2, 1) := by decide +kernel
theorem dX4_isWord_29 : decode cX4_isWord 29 = .ok (.aload_n 1, 1) := by decide +kernel
theorem dX4_isWord_30 : decode cX4_isWord 30 = .ok (.invokevirtual 146, 3) := by decide +kernel
theorem dX4_isWord_33 : decode cX4_isWord 33 = .ok (.if_icmp .ge 29, 3) := by decide +kernel
theorem dX4_isWord_36 : decode cX4_isWord 36 = .ok (.aload_n 0, 1) := by decide +kernel
theorem dX4_isWord_37 : decode cX4_isWord 37 = .ok (.aload_n 0, 1) := by decide +kernel
theorem dX4_isWord_38 : decode cX4_isWord 38 = .ok (.getfield 133, 3) := by decide +kernel
theorem dX4_isWord_41 : decode cX4_isWord 41 = .ok (.iload_n 2, 1) := by decide +kernel
theorem dX4_isWord_42 : decode cX4_isWord 42 = .ok (.iadd, 1) := by decide +kernel
theorem dX4_isWord_43 : decode cX4_isWord 43 = .ok (.invokevirtual 139, 3) := by decide +kernel
theorem dX4_isWord_46 : decode cX4_isWord 46 = .ok (.aload_n 1, 1) := by decide +kernel
theorem dX4_isWord_47 : decode cX4_isWord 47 = .ok (.iload_n 2, 1) := by decide +kernel
theorem dX4_isWord_48 : decode cX4_isWord 48 = .ok (.invokevirtual 150, 3) := by decide +kernel
theorem dX4_isWord_51 : decode cX4_isWord 51 = .ok (.if_icmp .eq 5, 3) := by decide +kernel
theorem dX4_isWord_54 : decode cX4_isWord 54 = .ok (.iconst 0, 1) := by decide +kernel
theorem dX4_isWord_55 : decode cX4_isWord 55 = .ok (.ireturn, 1) := by decide +kernel
theorem dX4_isWord_56 : decode cX4_isWord 56 = .ok (.iinc 2 1, 3) := by decide +kernel
theorem dX4_isWord_59 : decode cX4_isWord 59 = .ok (.goto (-31), 3) := by decide +kernel
theorem dX4_isWord_62 : decode cX4_isWord 62 = .ok (.iconst 1, 1) := by decide +kernel
theorem dX4_isWord_63 : decode cX4_isWord 63 = .ok (.ireturn, 1) := by decide +kernel
def fn_X4_isWord_28 (N : Nat) : Nat → Mem → Nat → UInt32 → Int32 → Option (Int32 × Mem)
  | 0, _, _, _, _ => none
  | n + 1, M, a0, s1, x2 =>
    (st_ck s1).bind fun _ => mm_b2 (fn_J0_length_8abf5 N M s1) fun v2 M1 =>
    if v2 ≤ x2 then
      some (1, M1)
    else
      (mm_gI M1 a0 4 3).bind fun v3 =>
      (mm_ck M1 a0 4).bind fun _ => mm_b2 (fn_X4_byteAt N M1 a0 ((v3 + x2))) fun v5 M4 =>
      (st_ck s1).bind fun _ => mm_b2 (fn_J0_charAt_5068e N M4 s1 x2) fun v7 M6 =>
      if v5 = v7 then
        fn_X4_isWord_28 N n M6 a0 s1 ((x2 + 1))
      else
        some (0, M6)
set_option maxRecDepth 100000 in
set_option maxHeartbeats 4000000 in
theorem bk_X4_isWord_28 {Γ : Gm} {ω : Wd} {k N : Nat} {r : Int32} {M' : Mem} (C : Cx Γ cX4_isWord 3 RX4 ω 4 0 0) (hr : Γ.meth.sig.returnType = (some .boolean)) : ∀ (n : Nat) (M : Mem) (a0 : Nat) (s1 : UInt32) (x2 : Int32), fn_X4_isWord_28 N n M a0 s1 x2 = some (r, M') → JJ Γ (QF Γ ω k 0 0 (some (.int r)) M') 3 ω k M 0 0 28 [(0, .ref a0), (1, .float s1), (2, .int x2)] [] := by
  intro n
  induction n with
  | zero => intro M a0 s1 x2 h; exact jv_no h
  | succ n ih =>
    intro M a0 s1 x2 h
    rw [fn_X4_isWord_28.eq_2] at h
    refine jv_iload_n C dX4_isWord_28 rfl 2 rfl ?_
    refine jv_sload_n C dX4_isWord_29 rfl 1 rfl ?_
    refine jv_wI0 (As := []) C lk_X4_146 rfl dX4_isWord_30 rfl rfl (by decide) (by decide) (by decide) (Nat.le_of_ble_eq_true rfl) h (fun _ _ h => ct_J0_length_8abf5 h) (fun v2 M1 h => ?_)
    refine jv_icmp_ge (tgt := 62) C dX4_isWord_33 (by decide) h (fun h => ?_) (fun h => ?_)
    · refine jv_iconst (v := 1) C dX4_isWord_62 (by decide) ?_
      exact jv_zretc C hr (Or.inr rfl) dX4_isWord_63 h
    · refine jv_aload_n C dX4_isWord_36 rfl 0 rfl ?_
      refine jv_aload_n C dX4_isWord_37 rfl 0 rfl ?_
      refine jv_getI C fa_X4_133 dX4_isWord_38 h (fun v3 h => ?_)
      refine jv_iload_n C dX4_isWord_41 rfl 2 rfl ?_
      refine jv_iadd C dX4_isWord_42 ?_
      refine jv_vI0 (As := [.int (v3 + x2)]) C lk_X4_139 rfl dX4_isWord_43 rfl rfl (by decide) (by decide) (by decide) (Nat.le_of_ble_eq_true rfl) h (fun _ _ h => ct_X4_byteAt h) (fun v5 M4 h => ?_)
      refine jv_sload_n C dX4_isWord_46 rfl 1 rfl ?_
      refine jv_iload_n C dX4_isWord_47 rfl 2 rfl ?_
      refine jv_wI0 (As := [.int x2]) C lk_X4_150 rfl dX4_isWord_48 rfl rfl (by decide) (by decide) (by decide) (Nat.le_of_ble_eq_true rfl) h (fun _ _ h => ct_J0_charAt_5068e h) (fun v7 M6 h => ?_)
      refine jv_icmp_eq (tgt := 56) C dX4_isWord_51 (by decide) h (fun h => ?_) (fun h => ?_)
      · refine jv_iinc (v := 1) (lv' := [(2, .int (x2 + 1)), (0, .ref a0), (1, .float s1)]) C dX4_isWord_56 2 rfl (by decide) (by decide) rfl ?_
        refine jv_goto (tgt := 28) C dX4_isWord_59 (by decide) ?_
        refine jv_sub [1, 2, 0] rfl ?_
        exact ih _ _ _ _ h
      · refine jv_iconst (v := 0) C dX4_isWord_54 (by decide) ?_
        exact jv_zretc C hr (Or.inl rfl) dX4_isWord_55 h
def fn_X4_isWord (N : Nat) (M : Mem) (a0 : Nat) (s1 : UInt32) : Option (Int32 × Mem) :=
  (mm_gI M a0 4 2).bind fun v1 =>
  if v1 = 2 then
    (mm_gI M a0 4 4).bind fun v2 =>
    (mm_gI M a0 4 3).bind fun v3 =>
    (st_ck s1).bind fun _ => mm_b2 (fn_J0_length_8abf5 N M s1) fun v5 M4 =>
    if (v2 - v3) = v5 then
      fn_X4_isWord_28 N N M4 a0 s1 0
    else
      some (0, M4)
  else
    some (0, M)
set_option maxRecDepth 100000 in
set_option maxHeartbeats 4000000 in
theorem ct_X4_isWord {l : Launch} {ω : Wd} {k N : Nat} {M : Mem} {a0 : Nat} {s1 : UInt32} {r : Int32} {M' : Mem} (h : fn_X4_isWord N M a0 s1 = some (r, M')) : CM l ω k yX4_isWord cX4_isWord 3 (some .boolean) 4 0 0 [.ref a0, .float s1] M (some (.int r)) M' := by
  refine CM.of (by decide) (Nat.le_of_ble_eq_true rfl) fun Γ hl C hr hi => ?_
  subst hl
  unfold fn_X4_isWord at h
  refine jv_aload_n C dX4_isWord_0 rfl 0 rfl ?_
  refine jv_getI C fa_X4_38 dX4_isWord_1 h (fun v1 h => ?_)
  refine jv_iconst (v := 2) C dX4_isWord_4 (by decide) ?_
  refine jv_icmp_ne (tgt := 24) C dX4_isWord_5 (by decide) h (fun h => ?_) (fun h => ?_)
  · refine jv_iconst (v := 0) C dX4_isWord_24 (by decide) ?_
    exact jv_zretc C hr (Or.inl rfl) dX4_isWord_25 h
  · refine jv_aload_n C dX4_isWord_8 rfl 0 rfl ?_
    refine jv_getI C fa_X4_19 dX4_isWord_9 h (fun v2 h => ?_)
    refine jv_aload_n C dX4_isWord_12 rfl 0 rfl ?_
    refine jv_getI C fa_X4_133 dX4_isWord_13 h (fun v3 h => ?_)
    refine jv_isub C dX4_isWord_16 ?_
    refine jv_sload_n C dX4_isWord_17 rfl 1 rfl ?_
    refine jv_wI0 (As := []) C lk_X4_146 rfl dX4_isWord_18 rfl rfl (by decide) (by decide) (by decide) (Nat.le_of_ble_eq_true rfl) h (fun _ _ h => ct_J0_length_8abf5 h) (fun v5 M4 h => ?_)
    refine jv_icmp_eq (tgt := 26) C dX4_isWord_21 (by decide) h (fun h => ?_) (fun h => ?_)
    · refine jv_iconst (v := 0) C dX4_isWord_26 (by decide) ?_
      refine jv_istore_n (lv' := [(2, .int 0), (0, .ref a0), (1, .float s1)]) C dX4_isWord_27 rfl (by decide) rfl ?_
      refine jv_sub [1, 2, 0] rfl ?_
      exact bk_X4_isWord_28 C hr _ _ _ _ _ h
    · refine jv_iconst (v := 0) C dX4_isWord_24 (by decide) ?_
      exact jv_zretc C hr (Or.inl rfl) dX4_isWord_25 h
theorem dX4_number_0 : decode cX4_number 0 = .ok (.iconst 0, 1) := by decide +kernel
theorem dX4_number_1 : decode cX4_number 1 = .ok (.istore_n 1, 1) := by decide +kernel
theorem dX4_number_2 : decode cX4_number 2 = .ok (.aload_n 0, 1) := by decide +kernel
theorem dX4_number_3 : decode cX4_number 3 = .ok (.getfield 133, 3) := by decide +kernel
theorem dX4_number_6 : decode cX4_number 6 = .ok (.istore_n 2, 1) := by decide +kernel
theorem dX4_number_7 : decode cX4_number 7 = .ok (.iload_n 2, 1) := by decide +kernel
theorem dX4_number_8 : decode cX4_number 8 = .ok (.aload_n 0, 1) := by decide +kernel
theorem dX4_number_9 : decode cX4_number 9 = .ok (.getfield 19, 3) := by decide +kernel
theorem dX4_number_12 : decode cX4_number 12 = .ok (.if_icmp .ge 23, 3) := by decide +kernel
theorem dX4_number_15 : decode cX4_number 15 = .ok (.bipush 10, 2) := by decide +kernel
theorem dX4_number_17 : decode cX4_number 17 = .ok (.iload_n 1, 1) := by decide +kernel
theorem dX4_number_18 : decode cX4_number 18 = .ok (.imul, 1) := by decide +kernel
theorem dX4_number_19 : decode cX4_number 19 = .ok (.aload_n 0, 1) := by decide +kernel
theorem dX4_number_20 : decode cX4_number 20 = .ok (.iload_n 2, 1) := by decide +kernel
theorem dX4_number_21 : decode cX4_number 21 = .ok (.invokevirtual 139, 3) := by decide +kernel
theorem dX4_number_24 : decode cX4_number 24 = .ok (.iadd, 1) := by decide +kernel
theorem dX4_number_25 : decode cX4_number 25 = .ok (.bipush 48, 2) := by decide +kernel
theorem dX4_number_27 : decode cX4_number 27 = .ok (.isub, 1) := by decide +kernel
theorem dX4_number_28 : decode cX4_number 28 = .ok (.istore_n 1, 1) := by decide +kernel
theorem dX4_number_29 : decode cX4_number 29 = .ok (.iinc 2 1, 3) := by decide +kernel
theorem dX4_number_32 : decode cX4_number 32 = .ok (.goto (-25), 3) := by decide +kernel
theorem dX4_number_35 : decode cX4_number 35 = .ok (.iload_n 1, 1) := by decide +kernel
theorem dX4_number_36 : decode cX4_number 36 = .ok (.ireturn, 1) := by decide +kernel
def fn_X4_number_7 (N : Nat) : Nat → Mem → Nat → Int32 → Int32 → Option (Int32 × Mem)
  | 0, _, _, _, _ => none
  | n + 1, M, a0, x1, x2 =>
    (mm_gI M a0 4 4).bind fun v1 =>
    if v1 ≤ x2 then
      some (x1, M)
    else
      (mm_ck M a0 4).bind fun _ => mm_b2 (fn_X4_byteAt N M a0 x2) fun v3 M2 =>
      fn_X4_number_7 N n M2 a0 ((((10 * x1) + v3) - 48)) ((x2 + 1))
set_option maxRecDepth 100000 in
set_option maxHeartbeats 4000000 in
theorem bk_X4_number_7 {Γ : Gm} {ω : Wd} {k N : Nat} {r : Int32} {M' : Mem} (C : Cx Γ cX4_number 3 RX4 ω 1 0 0) (hr : Γ.meth.sig.returnType = (some .int)) : ∀ (n : Nat) (M : Mem) (a0 : Nat) (x1 : Int32) (x2 : Int32), fn_X4_number_7 N n M a0 x1 x2 = some (r, M') → JJ Γ (QF Γ ω k 0 0 (some (.int r)) M') 3 ω k M 0 0 7 [(0, .ref a0), (1, .int x1), (2, .int x2)] [] := by
  intro n
  induction n with
  | zero => intro M a0 x1 x2 h; exact jv_no h
  | succ n ih =>
    intro M a0 x1 x2 h
    rw [fn_X4_number_7.eq_2] at h
    refine jv_iload_n C dX4_number_7 rfl 2 rfl ?_
    refine jv_aload_n C dX4_number_8 rfl 0 rfl ?_
    refine jv_getI C fa_X4_19 dX4_number_9 h (fun v1 h => ?_)
    refine jv_icmp_ge (tgt := 35) C dX4_number_12 (by decide) h (fun h => ?_) (fun h => ?_)
    · refine jv_iload_n C dX4_number_35 rfl 1 rfl ?_
      exact jv_iret C hr dX4_number_36 h
    · refine jv_bipush (v := 10) C dX4_number_15 (by decide) ?_
      refine jv_iload_n C dX4_number_17 rfl 1 rfl ?_
      refine jv_imul C dX4_number_18 ?_
      refine jv_aload_n C dX4_number_19 rfl 0 rfl ?_
      refine jv_iload_n C dX4_number_20 rfl 2 rfl ?_
      refine jv_vI0 (As := [.int x2]) C lk_X4_139 rfl dX4_number_21 rfl rfl (by decide) (by decide) (by decide) (Nat.le_of_ble_eq_true rfl) h (fun _ _ h => ct_X4_byteAt h) (fun v3 M2 h => ?_)
      refine jv_iadd C dX4_number_24 ?_
      refine jv_bipush (v := 48) C dX4_number_25 (by decide) ?_
      refine jv_isub C dX4_number_27 ?_
      refine jv_istore_n (lv' := [(1, .int (((10 * x1) + v3) - 48)), (0, .ref a0), (2, .int x2)]) C dX4_number_28 rfl (by decide) rfl ?_
      refine jv_iinc (v := 1) (lv' := [(2, .int (x2 + 1)), (1, .int (((10 * x1) + v3) - 48)), (0, .ref a0)]) C dX4_number_29 2 rfl (by decide) (by decide) rfl ?_
      refine jv_goto (tgt := 7) C dX4_number_32 (by decide) ?_
      refine jv_sub [2, 1, 0] rfl ?_
      exact ih _ _ _ _ h
def fn_X4_number (N : Nat) (M : Mem) (a0 : Nat) : Option (Int32 × Mem) :=
  (mm_gI M a0 4 3).bind fun v1 =>
  fn_X4_number_7 N N M a0 0 v1
set_option maxRecDepth 100000 in
set_option maxHeartbeats 4000000 in
theorem ct_X4_number {l : Launch} {ω : Wd} {k N : Nat} {M : Mem} {a0 : Nat} {r : Int32} {M' : Mem} (h : fn_X4_number N M a0 = some (r, M')) : CM l ω k yX4_number cX4_number 3 (some .int) 1 0 0 [.ref a0] M (some (.int r)) M' := by
  refine CM.of (by decide) (Nat.le_of_ble_eq_true rfl) fun Γ hl C hr hi => ?_
  subst hl
  unfold fn_X4_number at h
  refine jv_iconst (v := 0) C dX4_number_0 (by decide) ?_
  refine jv_istore_n (lv' := [(1, .int 0), (0, .ref a0)]) C dX4_number_1 rfl (by decide) rfl ?_
  refine jv_aload_n C dX4_number_2 rfl 1 rfl ?_
  refine jv_getI C fa_X4_133 dX4_number_3 h (fun v1 h => ?_)
  refine jv_istore_n (lv' := [(2, .int v1), (1, .int 0), (0, .ref a0)]) C dX4_number_6 rfl (by decide) rfl ?_
  refine jv_sub [2, 1, 0] rfl ?_
  exact bk_X4_number_7 C hr _ _ _ _ _ h
theorem dX4_readNumber_0 : decode cX4_readNumber 0 = .ok (.aload_n 0, 1) := by decide +kernel
theorem dX4_readNumber_1 : decode cX4_readNumber 1 = .ok (.getfield 22, 3) := by decide +kernel
theorem dX4_readNumber_4 : decode cX4_readNumber 4 = .ok (.ifCond .eq 5, 3) := by decide +kernel
theorem dX4_readNumber_7 : decode cX4_readNumber 7 = .ok (.iload_n 1, 1) := by decide +kernel
theorem dX4_readNumber_8 : decode cX4_readNumber 8 = .ok (.ireturn, 1) := by decide +kernel
theorem dX4_readNumber_9 : decode cX4_readNumber 9 = .ok (.aload_n 0, 1) := by decide +kernel
theorem dX4_readNumber_10 : decode cX4_readNumber 10 = .ok (.invokevirtual 35, 3) := by decide +kernel
theorem dX4_readNumber_13 : decode cX4_readNumber 13 = .ok (.aload_n 0, 1) := by decide +kernel
theorem dX4_readNumber_14 : decode cX4_readNumber 14 = .ok (.aload_n 0, 1) := by decide +kernel
theorem dX4_readNumber_15 : decode cX4_readNumber 15 = .ok (.getfield 38, 3) := by decide +kernel
theorem dX4_readNumber_18 : decode cX4_readNumber 18 = .ok (.iconst 3, 1) := by decide +kernel
theorem dX4_readNumber_19 : decode cX4_readNumber 19 = .ok (.if_icmp .eq 7, 3) := by decide +kernel
theorem dX4_readNumber_22 : decode cX4_readNumber 22 = .ok (.iconst 1, 1) := by decide +kernel
theorem dX4_readNumber_23 : decode cX4_readNumber 23 = .ok (.goto 4, 3) := by decide +kernel
theorem dX4_readNumber_26 : decode cX4_readNumber 26 = .ok (.iconst 0, 1) := by decide +kernel
theorem dX4_readNumber_27 : decode cX4_readNumber 27 = .ok (.iconst 1, 1) := by decide +kernel
theorem dX4_readNumber_28 : decode cX4_readNumber 28 = .ok (.invokevirtual 70, 3) := by decide +kernel
theorem dX4_readNumber_31 : decode cX4_readNumber 31 = .ok (.aload_n 0, 1) := by decide +kernel
theorem dX4_readNumber_32 : decode cX4_readNumber 32 = .ok (.invokevirtual 130, 3) := by decide +kernel
theorem dX4_readNumber_35 : decode cX4_readNumber 35 = .ok (.istore_n 3, 1) := by decide +kernel
theorem dX4_readNumber_36 : decode cX4_readNumber 36 = .ok (.aload_n 0, 1) := by decide +kernel
theorem dX4_readNumber_37 : decode cX4_readNumber 37 = .ok (.iload_n 3, 1) := by decide +kernel
theorem dX4_readNumber_38 : decode cX4_readNumber 38 = .ok (.iload_n 1, 1) := by decide +kernel
theorem dX4_readNumber_39 : decode cX4_readNumber 39 = .ok (.if_icmp .lt 8, 3) := by decide +kernel
theorem dX4_readNumber_42 : decode cX4_readNumber 42 = .ok (.iload_n 3, 1) := by decide +kernel
theorem dX4_readNumber_43 : decode cX4_readNumber 43 = .ok (.iload_n 2, 1) := by decide +kernel
theorem dX4_readNumber_44 : decode cX4_readNumber 44 = .ok (.if_icmp .le 7, 3) := by decide +kernel
theorem dX4_readNumber_47 : decode cX4_readNumber 47 = .ok (.iconst 1, 1) := by decide +kernel
theorem dX4_readNumber_48 : decode cX4_readNumber 48 = .ok (.goto 4, 3) := by decide +kernel
theorem dX4_readNumber_51 : decode cX4_readNumber 51 = .ok (.iconst 0, 1) := by decide +kernel
theorem dX4_readNumber_52 : decode cX4_readNumber 52 = .ok (.iconst 2, 1) := by decide +kernel
theorem dX4_readNumber_53 : decode cX4_readNumber 53 = .ok (.invokevirtual 70, 3) := by decide +kernel
theorem dX4_readNumber_56 : decode cX4_readNumber 56 = .ok (.iload_n 3, 1) := by decide +kernel
theorem dX4_readNumber_57 : decode cX4_readNumber 57 = .ok (.ireturn, 1) := by decide +kernel
def fn_X4_readNumber_47 (N : Nat) (M : Mem) (x3 : Int32) (s0 : Nat) : Option (Int32 × Mem) :=
  (mm_ck M s0 4).bind fun _ => mm_b2 (fn_X4_failIf N M s0 1 2) fun _ M1 =>
  some (x3, M1)
set_option maxRecDepth 100000 in
set_option maxHeartbeats 4000000 in
theorem bk_X4_readNumber_47 {Γ : Gm} {ω : Wd} {k N : Nat} {r : Int32} {M' : Mem} (C : Cx Γ cX4_readNumber 4 RX4 ω 3 0 0) (hr : Γ.meth.sig.returnType = (some .int)) (M : Mem) (x3 : Int32) (s0 : Nat) (h : fn_X4_readNumber_47 N M x3 s0 = some (r, M')) : JJ Γ (QF Γ ω k 0 0 (some (.int r)) M') 4 ω k M 0 0 47 [(3, .int x3)] [.ref s0] := by
  unfold fn_X4_readNumber_47 at h
  refine jv_iconst (v := 1) C dX4_readNumber_47 (by decide) ?_
  refine jv_goto (tgt := 52) C dX4_readNumber_48 (by decide) ?_
  refine jv_iconst (v := 2) C dX4_readNumber_52 (by decide) ?_
  refine jv_vV0 (As := [.int 1, .int 2]) C lk_X4_70 rfl dX4_readNumber_53 rfl rfl (by decide) (by decide) (by decide) (Nat.le_of_ble_eq_true rfl) h (fun _ _ h => ct_X4_failIf h) (fun _ M1 h => ?_)
  refine jv_iload_n C dX4_readNumber_56 rfl 0 rfl ?_
  exact jv_iret C hr dX4_readNumber_57 h
def fn_X4_readNumber_27 (N : Nat) (M : Mem) (a0 : Nat) (x1 : Int32) (x2 : Int32) (s0 : Int32) (s1 : Nat) : Option (Int32 × Mem) :=
  (mm_ck M s1 4).bind fun _ => mm_b2 (fn_X4_failIf N M s1 s0 1) fun _ M1 =>
  (mm_ck M1 a0 4).bind fun _ => mm_b2 (fn_X4_number N M1 a0) fun v3 M2 =>
  if v3 < x1 then
    fn_X4_readNumber_47 N M2 v3 a0
  else
    if v3 ≤ x2 then
      (mm_ck M2 a0 4).bind fun _ => mm_b2 (fn_X4_failIf N M2 a0 0 2) fun _ M4 =>
      some (v3, M4)
    else
      fn_X4_readNumber_47 N M2 v3 a0
set_option maxRecDepth 100000 in
set_option maxHeartbeats 4000000 in
theorem bk_X4_readNumber_27 {Γ : Gm} {ω : Wd} {k N : Nat} {r : Int32} {M' : Mem} (C : Cx Γ cX4_readNumber 4 RX4 ω 3 0 0) (hr : Γ.meth.sig.returnType = (some .int)) (M : Mem) (a0 : Nat) (x1 : Int32) (x2 : Int32) (s0 : Int32) (s1 : Nat) (h : fn_X4_readNumber_27 N M a0 x1 x2 s0 s1 = some (r, M')) : JJ Γ (QF Γ ω k 0 0 (some (.int r)) M') 4 ω k M 0 0 27 [(0, .ref a0), (1, .int x1), (2, .int x2)] [.int s0, .ref s1] := by
  unfold fn_X4_readNumber_27 at h
  refine jv_iconst (v := 1) C dX4_readNumber_27 (by decide) ?_
  refine jv_vV0 (As := [.int s0, .int 1]) C lk_X4_70 rfl dX4_readNumber_28 rfl rfl (by decide) (by decide) (by decide) (Nat.le_of_ble_eq_true rfl) h (fun _ _ h => ct_X4_failIf h) (fun _ M1 h => ?_)
  refine jv_aload_n C dX4_readNumber_31 rfl 0 rfl ?_
  refine jv_vI0 (As := []) C lk_X4_130 rfl dX4_readNumber_32 rfl rfl (by decide) (by decide) (by decide) (Nat.le_of_ble_eq_true rfl) h (fun _ _ h => ct_X4_number h) (fun v3 M2 h => ?_)
  refine jv_istore_n (lv' := [(3, .int v3), (0, .ref a0), (1, .int x1), (2, .int x2)]) C dX4_readNumber_35 rfl (by decide) rfl ?_
  refine jv_aload_n C dX4_readNumber_36 rfl 1 rfl ?_
  refine jv_iload_n C dX4_readNumber_37 rfl 0 rfl ?_
  refine jv_iload_n C dX4_readNumber_38 rfl 2 rfl ?_
  refine jv_icmp_lt (tgt := 47) C dX4_readNumber_39 (by decide) h (fun h => ?_) (fun h => ?_)
  · refine jv_sub [0] rfl ?_
    exact bk_X4_readNumber_47 C hr _ _ _ h
  · refine jv_iload_n C dX4_readNumber_42 rfl 0 rfl ?_
    refine jv_iload_n C dX4_readNumber_43 rfl 3 rfl ?_
    refine jv_icmp_le (tgt := 51) C dX4_readNumber_44 (by decide) h (fun h => ?_) (fun h => ?_)
    · refine jv_iconst (v := 0) C dX4_readNumber_51 (by decide) ?_
      refine jv_iconst (v := 2) C dX4_readNumber_52 (by decide) ?_
      refine jv_vV0 (As := [.int 0, .int 2]) C lk_X4_70 rfl dX4_readNumber_53 rfl rfl (by decide) (by decide) (by decide) (Nat.le_of_ble_eq_true rfl) h (fun _ _ h => ct_X4_failIf h) (fun _ M4 h => ?_)
      refine jv_iload_n C dX4_readNumber_56 rfl 0 rfl ?_
      exact jv_iret C hr dX4_readNumber_57 h
    · refine jv_sub [0] rfl ?_
      exact bk_X4_readNumber_47 C hr _ _ _ h
def fn_X4_readNumber (N : Nat) (M : Mem) (a0 : Nat) (x1 : Int32) (x2 : Int32) : Option (Int32 × Mem) :=
  (mm_gI M a0 4 5).bind fun v1 =>
  if v1 = 0 then
    (mm_ck M a0 4).bind fun _ => mm_b2 (fn_X4_readToken N M a0) fun _ M2 =>
    (mm_gI M2 a0 4 2).bind fun v3 =>
    if v3 = 3 then
      fn_X4_readNumber_27 N M2 a0 x1 x2 0 a0
    else
      fn_X4_readNumber_27 N M2 a0 x1 x2 1 a0
  else
    some (x1, M)
set_option maxRecDepth 100000 in
set_option maxHeartbeats 4000000 in
theorem ct_X4_readNumber {l : Launch} {ω : Wd} {k N : Nat} {M : Mem} {a0 : Nat} {x1 : Int32} {x2 : Int32} {r : Int32} {M' : Mem} (h : fn_X4_readNumber N M a0 x1 x2 = some (r, M')) : CM l ω k yX4_readNumber cX4_readNumber 4 (some .int) 3 0 0 [.ref a0, .int x1, .int x2] M (some (.int r)) M' := by
  refine CM.of (by decide) (Nat.le_of_ble_eq_true rfl) fun Γ hl C hr hi => ?_
  subst hl
  unfold fn_X4_readNumber at h
  refine jv_aload_n C dX4_readNumber_0 rfl 0 rfl ?_
  refine jv_getI C fa_X4_22 dX4_readNumber_1 h (fun v1 h => ?_)
  refine jv_if_eq (tgt := 9) C dX4_readNumber_4 (by decide) h (fun h => ?_) (fun h => ?_)
  · refine jv_aload_n C dX4_readNumber_9 rfl 0 rfl ?_
    refine jv_vV0 (As := []) C lk_X4_35 rfl dX4_readNumber_10 rfl rfl (by decide) (by decide) (by decide) (Nat.le_of_ble_eq_true rfl) h (fun _ _ h => ct_X4_readToken h) (fun _ M2 h => ?_)
    refine jv_aload_n C dX4_readNumber_13 rfl 0 rfl ?_
    refine jv_aload_n C dX4_readNumber_14 rfl 0 rfl ?_
    refine jv_getI C fa_X4_38 dX4_readNumber_15 h (fun v3 h => ?_)
    refine jv_iconst (v := 3) C dX4_readNumber_18 (by decide) ?_
    refine jv_icmp_eq (tgt := 26) C dX4_readNumber_19 (by decide) h (fun h => ?_) (fun h => ?_)
    · refine jv_iconst (v := 0) C dX4_readNumber_26 (by decide) ?_
      exact bk_X4_readNumber_27 C hr _ _ _ _ _ _ h
    · refine jv_iconst (v := 1) C dX4_readNumber_22 (by decide) ?_
      refine jv_goto (tgt := 27) C dX4_readNumber_23 (by decide) ?_
      exact bk_X4_readNumber_27 C hr _ _ _ _ _ _ h
  · refine jv_iload_n C dX4_readNumber_7 rfl 1 rfl ?_
    exact jv_iret C hr dX4_readNumber_8 h
theorem dX4_readBin_0 : decode cX4_readBin 0 = .ok (.aload_n 0, 1) := by decide +kernel
theorem dX4_readBin_1 : decode cX4_readBin 1 = .ok (.aload_n 1, 1) := by decide +kernel
theorem dX4_readBin_2 : decode cX4_readBin 2 = .ok (.getfield 120, 3) := by decide +kernel
theorem dX4_readBin_5 : decode cX4_readBin 5 = .ok (.invokevirtual 98, 3) := by decide +kernel
theorem dX4_readBin_8 : decode cX4_readBin 8 = .ok (.iconst 4, 1) := by decide +kernel
theorem dX4_readBin_9 : decode cX4_readBin 9 = .ok (.invokevirtual 70, 3) := by decide +kernel
theorem dX4_readBin_12 : decode cX4_readBin 12 = .ok (.aload_n 1, 1) := by decide +kernel
theorem dX4_readBin_13 : decode cX4_readBin 13 = .ok (.getfield 120, 3) := by decide +kernel
theorem dX4_readBin_16 : decode cX4_readBin 16 = .ok (.aload_n 0, 1) := by decide +kernel
theorem dX4_readBin_17 : decode cX4_readBin 17 = .ok (.iconst 0, 1) := by decide +kernel
theorem dX4_readBin_18 : decode cX4_readBin 18 = .ok (.aload_n 1, 1) := by decide +kernel
theorem dX4_readBin_19 : decode cX4_readBin 19 = .ok (.getfield 47, 3) := by decide +kernel
theorem dX4_readBin_22 : decode cX4_readBin 22 = .ok (.invokevirtual 123, 3) := by decide +kernel
theorem dX4_readBin_25 : decode cX4_readBin 25 = .ok (.iconst 1, 1) := by decide +kernel
theorem dX4_readBin_26 : decode cX4_readBin 26 = .ok (.isub, 1) := by decide +kernel
theorem dX4_readBin_27 : decode cX4_readBin 27 = .ok (.invokevirtual 74, 3) := by decide +kernel
theorem dX4_readBin_30 : decode cX4_readBin 30 = .ok (.invokevirtual 104, 3) := by decide +kernel
theorem dX4_readBin_33 : decode cX4_readBin 33 = .ok (.aload_n 1, 1) := by decide +kernel
theorem dX4_readBin_34 : decode cX4_readBin 34 = .ok (.getfield 127, 3) := by decide +kernel
theorem dX4_readBin_37 : decode cX4_readBin 37 = .ok (.aload_n 0, 1) := by decide +kernel
theorem dX4_readBin_38 : decode cX4_readBin 38 = .ok (.iconst 1, 1) := by decide +kernel
theorem dX4_readBin_39 : decode cX4_readBin 39 = .ok (.bipush 100, 2) := by decide +kernel
theorem dX4_readBin_41 : decode cX4_readBin 41 = .ok (.invokevirtual 74, 3) := by decide +kernel
theorem dX4_readBin_44 : decode cX4_readBin 44 = .ok (.invokevirtual 104, 3) := by decide +kernel
theorem dX4_readBin_47 : decode cX4_readBin 47 = .ok (.return_, 1) := by decide +kernel
def fn_X4_readBin (N : Nat) (M : Mem) (a0 : Nat) (a1 : Nat) : Option (Unit × Mem) :=
  (mm_gR M a1 0 2).bind fun b1 =>
  (mm_ck M b1 6).bind fun _ => mm_b2 (fn_X6_isFull N M b1) fun v3 M2 =>
  (mm_ck M2 a0 4).bind fun _ => mm_b2 (fn_X4_failIf N M2 a0 v3 4) fun _ M4 =>
  (mm_gR M4 a1 0 2).bind fun b5 =>
  (mm_gR M4 a1 0 0).bind fun b6 =>
  (mm_ck M4 b6 3).bind fun _ => mm_b2 (fn_X3_count N M4 b6) fun v8 M7 =>
  (mm_ck M7 a0 4).bind fun _ => mm_b2 (fn_X4_readNumber N M7 a0 0 ((v8 - 1))) fun v10 M9 =>
  (mm_ck M9 b5 6).bind fun _ => mm_b2 (fn_X6_add N M9 b5 v10) fun _ M11 =>
  (mm_gR M11 a1 0 3).bind fun b12 =>
  (mm_ck M11 a0 4).bind fun _ => mm_b2 (fn_X4_readNumber N M11 a0 1 100) fun v14 M13 =>
  (mm_ck M13 b12 6).bind fun _ => mm_b2 (fn_X6_add N M13 b12 v14) fun _ M15 =>
  some ((), M15)
set_option maxRecDepth 100000 in
set_option maxHeartbeats 4000000 in
theorem ct_X4_readBin {l : Launch} {ω : Wd} {k N : Nat} {M : Mem} {a0 : Nat} {a1 : Nat} {r : Unit} {M' : Mem} (h : fn_X4_readBin N M a0 a1 = some (r, M')) : CM l ω k yX4_readBin cX4_readBin 2 none 4 0 0 [.ref a0, .ref a1] M none M' := by
  refine CM.of (by decide) (Nat.le_of_ble_eq_true rfl) fun Γ hl C hr hi => ?_
  subst hl
  unfold fn_X4_readBin at h
  refine jv_aload_n C dX4_readBin_0 rfl 0 rfl ?_
  refine jv_aload_n C dX4_readBin_1 rfl 1 rfl ?_
  refine jv_getR C fa_X4_120 dX4_readBin_2 h (fun b1 h => ?_)
  refine jv_vI0 (As := []) C lk_X4_98 rfl dX4_readBin_5 rfl rfl (by decide) (by decide) (by decide) (Nat.le_of_ble_eq_true rfl) h (fun _ _ h => ct_X6_isFull h) (fun v3 M2 h => ?_)
  refine jv_iconst (v := 4) C dX4_readBin_8 (by decide) ?_
  refine jv_vV0 (As := [.int v3, .int 4]) C lk_X4_70 rfl dX4_readBin_9 rfl rfl (by decide) (by decide) (by decide) (Nat.le_of_ble_eq_true rfl) h (fun _ _ h => ct_X4_failIf h) (fun _ M4 h => ?_)
  refine jv_aload_n C dX4_readBin_12 rfl 1 rfl ?_
  refine jv_getR C fa_X4_120 dX4_readBin_13 h (fun b5 h => ?_)
  refine jv_aload_n C dX4_readBin_16 rfl 0 rfl ?_
  refine jv_iconst (v := 0) C dX4_readBin_17 (by decide) ?_
  refine jv_aload_n C dX4_readBin_18 rfl 1 rfl ?_
  refine jv_getR C fa_X4_47 dX4_readBin_19 h (fun b6 h => ?_)
  refine jv_vI0 (As := []) C lk_X4_123 rfl dX4_readBin_22 rfl rfl (by decide) (by decide) (by decide) (Nat.le_of_ble_eq_true rfl) h (fun _ _ h => ct_X3_count h) (fun v8 M7 h => ?_)
  refine jv_iconst (v := 1) C dX4_readBin_25 (by decide) ?_
  refine jv_isub C dX4_readBin_26 ?_
  refine jv_vI0 (As := [.int 0, .int (v8 - 1)]) C lk_X4_74 rfl dX4_readBin_27 rfl rfl (by decide) (by decide) (by decide) (Nat.le_of_ble_eq_true rfl) h (fun _ _ h => ct_X4_readNumber h) (fun v10 M9 h => ?_)
  refine jv_vV0 (As := [.int v10]) C lk_X4_104 rfl dX4_readBin_30 rfl rfl (by decide) (by decide) (by decide) (Nat.le_of_ble_eq_true rfl) h (fun _ _ h => ct_X6_add h) (fun _ M11 h => ?_)
  refine jv_aload_n C dX4_readBin_33 rfl 1 rfl ?_
  refine jv_getR C fa_X4_127 dX4_readBin_34 h (fun b12 h => ?_)
  refine jv_aload_n C dX4_readBin_37 rfl 0 rfl ?_
  refine jv_iconst (v := 1) C dX4_readBin_38 (by decide) ?_
  refine jv_bipush (v := 100) C dX4_readBin_39 (by decide) ?_
  refine jv_vI0 (As := [.int 1, .int 100]) C lk_X4_74 rfl dX4_readBin_41 rfl rfl (by decide) (by decide) (by decide) (Nat.le_of_ble_eq_true rfl) h (fun _ _ h => ct_X4_readNumber h) (fun v14 M13 h => ?_)
  refine jv_vV0 (As := [.int v14]) C lk_X4_104 rfl dX4_readBin_44 rfl rfl (by decide) (by decide) (by decide) (Nat.le_of_ble_eq_true rfl) h (fun _ _ h => ct_X6_add h) (fun _ M15 h => ?_)
  exact jv_vret C hr dX4_readBin_47 h
theorem dX4_readKind_0 : decode cX4_readKind 0 = .ok (.aload_n 0, 1) := by decide +kernel
theorem dX4_readKind_1 : decode cX4_readKind 1 = .ok (.aload_n 1, 1) := by decide +kernel
theorem dX4_readKind_2 : decode cX4_readKind 2 = .ok (.getfield 92, 3) := by decide +kernel
theorem dX4_readKind_5 : decode cX4_readKind 5 = .ok (.invokevirtual 98, 3) := by decide +kernel
theorem dX4_readKind_8 : decode cX4_readKind 8 = .ok (.iconst 4, 1) := by decide +kernel
theorem dX4_readKind_9 : decode cX4_readKind 9 = .ok (.invokevirtual 70, 3) := by decide +kernel
theorem dX4_readKind_12 : decode cX4_readKind 12 = .ok (.aload_n 1, 1) := by decide +kernel
theorem dX4_readKind_13 : decode cX4_readKind 13 = .ok (.getfield 92, 3) := by decide +kernel
theorem dX4_readKind_16 : decode cX4_readKind 16 = .ok (.iload_n 2, 1) := by decide +kernel
theorem dX4_readKind_17 : decode cX4_readKind 17 = .ok (.ifCond .eq 14, 3) := by decide +kernel
theorem dX4_readKind_20 : decode cX4_readKind 20 = .ok (.aload_n 0, 1) := by decide +kernel
theorem dX4_readKind_21 : decode cX4_readKind 21 = .ok (.iconst 1, 1) := by decide +kernel
theorem dX4_readKind_22 : decode cX4_readKind 22 = .ok (.sipush 500, 3) := by decide +kernel
theorem dX4_readKind_25 : decode cX4_readKind 25 = .ok (.invokevirtual 74, 3) := by decide +kernel
theorem dX4_readKind_28 : decode cX4_readKind 28 = .ok (.goto 4, 3) := by decide +kernel
theorem dX4_readKind_31 : decode cX4_readKind 31 = .ok (.iconst 0, 1) := by decide +kernel
theorem dX4_readKind_32 : decode cX4_readKind 32 = .ok (.invokevirtual 104, 3) := by decide +kernel
theorem dX4_readKind_35 : decode cX4_readKind 35 = .ok (.aload_n 1, 1) := by decide +kernel
theorem dX4_readKind_36 : decode cX4_readKind 36 = .ok (.getfield 108, 3) := by decide +kernel
theorem dX4_readKind_39 : decode cX4_readKind 39 = .ok (.aload_n 0, 1) := by decide +kernel
theorem dX4_readKind_40 : decode cX4_readKind 40 = .ok (.sipush 1000, 3) := by decide +kernel
theorem dX4_readKind_43 : decode cX4_readKind 43 = .ok (.sipush 4000, 3) := by decide +kernel
theorem dX4_readKind_46 : decode cX4_readKind 46 = .ok (.invokevirtual 74, 3) := by decide +kernel
theorem dX4_readKind_49 : decode cX4_readKind 49 = .ok (.invokevirtual 104, 3) := by decide +kernel
theorem dX4_readKind_52 : decode cX4_readKind 52 = .ok (.aload_n 1, 1) := by decide +kernel
theorem dX4_readKind_53 : decode cX4_readKind 53 = .ok (.getfield 111, 3) := by decide +kernel
theorem dX4_readKind_56 : decode cX4_readKind 56 = .ok (.aload_n 0, 1) := by decide +kernel
theorem dX4_readKind_57 : decode cX4_readKind 57 = .ok (.iconst 1, 1) := by decide +kernel
theorem dX4_readKind_58 : decode cX4_readKind 58 = .ok (.sipush 200, 3) := by decide +kernel
theorem dX4_readKind_61 : decode cX4_readKind 61 = .ok (.invokevirtual 74, 3) := by decide +kernel
theorem dX4_readKind_64 : decode cX4_readKind 64 = .ok (.invokevirtual 104, 3) := by decide +kernel
theorem dX4_readKind_67 : decode cX4_readKind 67 = .ok (.aload_n 1, 1) := by decide +kernel
theorem dX4_readKind_68 : decode cX4_readKind 68 = .ok (.getfield 114, 3) := by decide +kernel
theorem dX4_readKind_71 : decode cX4_readKind 71 = .ok (.aload_n 0, 1) := by decide +kernel
theorem dX4_readKind_72 : decode cX4_readKind 72 = .ok (.iconst 0, 1) := by decide +kernel
theorem dX4_readKind_73 : decode cX4_readKind 73 = .ok (.sipush 9999, 3) := by decide +kernel
theorem dX4_readKind_76 : decode cX4_readKind 76 = .ok (.invokevirtual 74, 3) := by decide +kernel
theorem dX4_readKind_79 : decode cX4_readKind 79 = .ok (.invokevirtual 104, 3) := by decide +kernel
theorem dX4_readKind_82 : decode cX4_readKind 82 = .ok (.aload_n 1, 1) := by decide +kernel
theorem dX4_readKind_83 : decode cX4_readKind 83 = .ok (.getfield 117, 3) := by decide +kernel
theorem dX4_readKind_86 : decode cX4_readKind 86 = .ok (.aload_n 0, 1) := by decide +kernel
theorem dX4_readKind_87 : decode cX4_readKind 87 = .ok (.iconst 1, 1) := by decide +kernel
theorem dX4_readKind_88 : decode cX4_readKind 88 = .ok (.sipush 500, 3) := by decide +kernel
theorem dX4_readKind_91 : decode cX4_readKind 91 = .ok (.invokevirtual 74, 3) := by decide +kernel
theorem dX4_readKind_94 : decode cX4_readKind 94 = .ok (.invokevirtual 104, 3) := by decide +kernel
theorem dX4_readKind_97 : decode cX4_readKind 97 = .ok (.return_, 1) := by decide +kernel
def fn_X4_readKind_32 (N : Nat) (M : Mem) (a0 : Nat) (a1 : Nat) (s0 : Int32) (s1 : Nat) : Option (Unit × Mem) :=
  (mm_ck M s1 6).bind fun _ => mm_b2 (fn_X6_add N M s1 s0) fun _ M1 =>
  (mm_gR M1 a1 3 1).bind fun b2 =>
  (mm_ck M1 a0 4).bind fun _ => mm_b2 (fn_X4_readNumber N M1 a0 1000 4000) fun v4 M3 =>
  (mm_ck M3 b2 6).bind fun _ => mm_b2 (fn_X6_add N M3 b2 v4) fun _ M5 =>
  (mm_gR M5 a1 3 2).bind fun b6 =>
  (mm_ck M5 a0 4).bind fun _ => mm_b2 (fn_X4_readNumber N M5 a0 1 200) fun v8 M7 =>
  (mm_ck M7 b6 6).bind fun _ => mm_b2 (fn_X6_add N M7 b6 v8) fun _ M9 =>
  (mm_gR M9 a1 3 3).bind fun b10 =>
  (mm_ck M9 a0 4).bind fun _ => mm_b2 (fn_X4_readNumber N M9 a0 0 9999) fun v12 M11 =>
  (mm_ck M11 b10 6).bind fun _ => mm_b2 (fn_X6_add N M11 b10 v12) fun _ M13 =>
  (mm_gR M13 a1 3 4).bind fun b14 =>
  (mm_ck M13 a0 4).bind fun _ => mm_b2 (fn_X4_readNumber N M13 a0 1 500) fun v16 M15 =>
  (mm_ck M15 b14 6).bind fun _ => mm_b2 (fn_X6_add N M15 b14 v16) fun _ M17 =>
  some ((), M17)
set_option maxRecDepth 100000 in
set_option maxHeartbeats 4000000 in
theorem bk_X4_readKind_32 {Γ : Gm} {ω : Wd} {k N : Nat} {r : Unit} {M' : Mem} (C : Cx Γ cX4_readKind 3 RX4 ω 4 0 0) (hr : Γ.meth.sig.returnType = none) (M : Mem) (a0 : Nat) (a1 : Nat) (s0 : Int32) (s1 : Nat) (h : fn_X4_readKind_32 N M a0 a1 s0 s1 = some (r, M')) : JJ Γ (QF Γ ω k 0 0 none M') 3 ω k M 0 0 32 [(0, .ref a0), (1, .ref a1)] [.int s0, .ref s1] := by
  unfold fn_X4_readKind_32 at h
  refine jv_vV0 (As := [.int s0]) C lk_X4_104 rfl dX4_readKind_32 rfl rfl (by decide) (by decide) (by decide) (Nat.le_of_ble_eq_true rfl) h (fun _ _ h => ct_X6_add h) (fun _ M1 h => ?_)
  refine jv_aload_n C dX4_readKind_35 rfl 1 rfl ?_
  refine jv_getR C fa_X4_108 dX4_readKind_36 h (fun b2 h => ?_)
  refine jv_aload_n C dX4_readKind_39 rfl 0 rfl ?_
  refine jv_sipush (v := 1000) C dX4_readKind_40 (by decide) ?_
  refine jv_sipush (v := 4000) C dX4_readKind_43 (by decide) ?_
  refine jv_vI0 (As := [.int 1000, .int 4000]) C lk_X4_74 rfl dX4_readKind_46 rfl rfl (by decide) (by decide) (by decide) (Nat.le_of_ble_eq_true rfl) h (fun _ _ h => ct_X4_readNumber h) (fun v4 M3 h => ?_)
  refine jv_vV0 (As := [.int v4]) C lk_X4_104 rfl dX4_readKind_49 rfl rfl (by decide) (by decide) (by decide) (Nat.le_of_ble_eq_true rfl) h (fun _ _ h => ct_X6_add h) (fun _ M5 h => ?_)
  refine jv_aload_n C dX4_readKind_52 rfl 1 rfl ?_
  refine jv_getR C fa_X4_111 dX4_readKind_53 h (fun b6 h => ?_)
  refine jv_aload_n C dX4_readKind_56 rfl 0 rfl ?_
  refine jv_iconst (v := 1) C dX4_readKind_57 (by decide) ?_
  refine jv_sipush (v := 200) C dX4_readKind_58 (by decide) ?_
  refine jv_vI0 (As := [.int 1, .int 200]) C lk_X4_74 rfl dX4_readKind_61 rfl rfl (by decide) (by decide) (by decide) (Nat.le_of_ble_eq_true rfl) h (fun _ _ h => ct_X4_readNumber h) (fun v8 M7 h => ?_)
  refine jv_vV0 (As := [.int v8]) C lk_X4_104 rfl dX4_readKind_64 rfl rfl (by decide) (by decide) (by decide) (Nat.le_of_ble_eq_true rfl) h (fun _ _ h => ct_X6_add h) (fun _ M9 h => ?_)
  refine jv_aload_n C dX4_readKind_67 rfl 1 rfl ?_
  refine jv_getR C fa_X4_114 dX4_readKind_68 h (fun b10 h => ?_)
  refine jv_aload_n C dX4_readKind_71 rfl 0 rfl ?_
  refine jv_iconst (v := 0) C dX4_readKind_72 (by decide) ?_
  refine jv_sipush (v := 9999) C dX4_readKind_73 (by decide) ?_
  refine jv_vI0 (As := [.int 0, .int 9999]) C lk_X4_74 rfl dX4_readKind_76 rfl rfl (by decide) (by decide) (by decide) (Nat.le_of_ble_eq_true rfl) h (fun _ _ h => ct_X4_readNumber h) (fun v12 M11 h => ?_)
  refine jv_vV0 (As := [.int v12]) C lk_X4_104 rfl dX4_readKind_79 rfl rfl (by decide) (by decide) (by decide) (Nat.le_of_ble_eq_true rfl) h (fun _ _ h => ct_X6_add h) (fun _ M13 h => ?_)
  refine jv_aload_n C dX4_readKind_82 rfl 1 rfl ?_
  refine jv_getR C fa_X4_117 dX4_readKind_83 h (fun b14 h => ?_)
  refine jv_aload_n C dX4_readKind_86 rfl 0 rfl ?_
  refine jv_iconst (v := 1) C dX4_readKind_87 (by decide) ?_
  refine jv_sipush (v := 500) C dX4_readKind_88 (by decide) ?_
  refine jv_vI0 (As := [.int 1, .int 500]) C lk_X4_74 rfl dX4_readKind_91 rfl rfl (by decide) (by decide) (by decide) (Nat.le_of_ble_eq_true rfl) h (fun _ _ h => ct_X4_readNumber h) (fun v16 M15 h => ?_)
  refine jv_vV0 (As := [.int v16]) C lk_X4_104 rfl dX4_readKind_94 rfl rfl (by decide) (by decide) (by decide) (Nat.le_of_ble_eq_true rfl) h (fun _ _ h => ct_X6_add h) (fun _ M17 h => ?_)
  exact jv_vret C hr dX4_readKind_97 h
def fn_X4_readKind (N : Nat) (M : Mem) (a0 : Nat) (a1 : Nat) (x2 : Int32) : Option (Unit × Mem) :=
  (mm_gR M a1 3 0).bind fun b1 =>
  (mm_ck M b1 6).bind fun _ => mm_b2 (fn_X6_isFull N M b1) fun v3 M2 =>
  (mm_ck M2 a0 4).bind fun _ => mm_b2 (fn_X4_failIf N M2 a0 v3 4) fun _ M4 =>
  (mm_gR M4 a1 3 0).bind fun b5 =>
  if x2 = 0 then
    fn_X4_readKind_32 N M4 a0 a1 0 b5
  else
    (mm_ck M4 a0 4).bind fun _ => mm_b2 (fn_X4_readNumber N M4 a0 1 500) fun v7 M6 =>
    fn_X4_readKind_32 N M6 a0 a1 v7 b5
set_option maxRecDepth 100000 in
set_option maxHeartbeats 4000000 in
theorem ct_X4_readKind {l : Launch} {ω : Wd} {k N : Nat} {M : Mem} {a0 : Nat} {a1 : Nat} {x2 : Int32} {r : Unit} {M' : Mem} (h : fn_X4_readKind N M a0 a1 x2 = some (r, M')) : CM l ω k yX4_readKind cX4_readKind 3 none 4 0 0 [.ref a0, .ref a1, .int x2] M none M' := by
  refine CM.of (by decide) (Nat.le_of_ble_eq_true rfl) fun Γ hl C hr hi => ?_
  subst hl
  unfold fn_X4_readKind at h
  refine jv_aload_n C dX4_readKind_0 rfl 0 rfl ?_
  refine jv_aload_n C dX4_readKind_1 rfl 1 rfl ?_
  refine jv_getR C fa_X4_92 dX4_readKind_2 h (fun b1 h => ?_)
  refine jv_vI0 (As := []) C lk_X4_98 rfl dX4_readKind_5 rfl rfl (by decide) (by decide) (by decide) (Nat.le_of_ble_eq_true rfl) h (fun _ _ h => ct_X6_isFull h) (fun v3 M2 h => ?_)
  refine jv_iconst (v := 4) C dX4_readKind_8 (by decide) ?_
  refine jv_vV0 (As := [.int v3, .int 4]) C lk_X4_70 rfl dX4_readKind_9 rfl rfl (by decide) (by decide) (by decide) (Nat.le_of_ble_eq_true rfl) h (fun _ _ h => ct_X4_failIf h) (fun _ M4 h => ?_)
  refine jv_aload_n C dX4_readKind_12 rfl 1 rfl ?_
  refine jv_getR C fa_X4_92 dX4_readKind_13 h (fun b5 h => ?_)
  refine jv_iload_n C dX4_readKind_16 rfl 2 rfl ?_
  refine jv_if_eq (tgt := 31) C dX4_readKind_17 (by decide) h (fun h => ?_) (fun h => ?_)
  · refine jv_iconst (v := 0) C dX4_readKind_31 (by decide) ?_
    refine jv_sub [0, 1] rfl ?_
    exact bk_X4_readKind_32 C hr _ _ _ _ _ h
  · refine jv_aload_n C dX4_readKind_20 rfl 0 rfl ?_
    refine jv_iconst (v := 1) C dX4_readKind_21 (by decide) ?_
    refine jv_sipush (v := 500) C dX4_readKind_22 (by decide) ?_
    refine jv_vI0 (As := [.int 1, .int 500]) C lk_X4_74 rfl dX4_readKind_25 rfl rfl (by decide) (by decide) (by decide) (Nat.le_of_ble_eq_true rfl) h (fun _ _ h => ct_X4_readNumber h) (fun v7 M6 h => ?_)
    refine jv_goto (tgt := 32) C dX4_readKind_28 (by decide) ?_
    refine jv_sub [0, 1] rfl ?_
    exact bk_X4_readKind_32 C hr _ _ _ _ _ h
theorem dX4_readSemicolon_0 : decode cX4_readSemicolon 0 = .ok (.aload_n 0, 1) := by decide +kernel
theorem dX4_readSemicolon_1 : decode cX4_readSemicolon 1 = .ok (.getfield 22, 3) := by decide +kernel
theorem dX4_readSemicolon_4 : decode cX4_readSemicolon 4 = .ok (.ifCond .ne 25, 3) := by decide +kernel
theorem dX4_readSemicolon_7 : decode cX4_readSemicolon 7 = .ok (.aload_n 0, 1) := by decide +kernel
theorem dX4_readSemicolon_8 : decode cX4_readSemicolon 8 = .ok (.invokevirtual 35, 3) := by decide +kernel
theorem dX4_readSemicolon_11 : decode cX4_readSemicolon 11 = .ok (.aload_n 0, 1) := by decide +kernel
theorem dX4_readSemicolon_12 : decode cX4_readSemicolon 12 = .ok (.aload_n 0, 1) := by decide +kernel
theorem dX4_readSemicolon_13 : decode cX4_readSemicolon 13 = .ok (.getfield 38, 3) := by decide +kernel
theorem dX4_readSemicolon_16 : decode cX4_readSemicolon 16 = .ok (.iconst 4, 1) := by decide +kernel
theorem dX4_readSemicolon_17 : decode cX4_readSemicolon 17 = .ok (.if_icmp .eq 7, 3) := by decide +kernel
theorem dX4_readSemicolon_20 : decode cX4_readSemicolon 20 = .ok (.iconst 1, 1) := by decide +kernel
theorem dX4_readSemicolon_21 : decode cX4_readSemicolon 21 = .ok (.goto 4, 3) := by decide +kernel
theorem dX4_readSemicolon_24 : decode cX4_readSemicolon 24 = .ok (.iconst 0, 1) := by decide +kernel
theorem dX4_readSemicolon_25 : decode cX4_readSemicolon 25 = .ok (.iconst 1, 1) := by decide +kernel
theorem dX4_readSemicolon_26 : decode cX4_readSemicolon 26 = .ok (.invokevirtual 70, 3) := by decide +kernel
theorem dX4_readSemicolon_29 : decode cX4_readSemicolon 29 = .ok (.return_, 1) := by decide +kernel
def fn_X4_readSemicolon (N : Nat) (M : Mem) (a0 : Nat) : Option (Unit × Mem) :=
  (mm_gI M a0 4 5).bind fun v1 =>
  if v1 = 0 then
    (mm_ck M a0 4).bind fun _ => mm_b2 (fn_X4_readToken N M a0) fun _ M2 =>
    (mm_gI M2 a0 4 2).bind fun v3 =>
    if v3 = 4 then
      (mm_ck M2 a0 4).bind fun _ => mm_b2 (fn_X4_failIf N M2 a0 0 1) fun _ M4 =>
      some ((), M4)
    else
      (mm_ck M2 a0 4).bind fun _ => mm_b2 (fn_X4_failIf N M2 a0 1 1) fun _ M5 =>
      some ((), M5)
  else
    some ((), M)
set_option maxRecDepth 100000 in
set_option maxHeartbeats 4000000 in
theorem ct_X4_readSemicolon {l : Launch} {ω : Wd} {k N : Nat} {M : Mem} {a0 : Nat} {r : Unit} {M' : Mem} (h : fn_X4_readSemicolon N M a0 = some (r, M')) : CM l ω k yX4_readSemicolon cX4_readSemicolon 1 none 3 0 0 [.ref a0] M none M' := by
  refine CM.of (by decide) (Nat.le_of_ble_eq_true rfl) fun Γ hl C hr hi => ?_
  subst hl
  unfold fn_X4_readSemicolon at h
  refine jv_aload_n C dX4_readSemicolon_0 rfl 0 rfl ?_
  refine jv_getI C fa_X4_22 dX4_readSemicolon_1 h (fun v1 h => ?_)
  refine jv_if_ne (tgt := 29) C dX4_readSemicolon_4 (by decide) h (fun h => ?_) (fun h => ?_)
  · exact jv_vret C hr dX4_readSemicolon_29 h
  · refine jv_aload_n C dX4_readSemicolon_7 rfl 0 rfl ?_
    refine jv_vV0 (As := []) C lk_X4_35 rfl dX4_readSemicolon_8 rfl rfl (by decide) (by decide) (by decide) (Nat.le_of_ble_eq_true rfl) h (fun _ _ h => ct_X4_readToken h) (fun _ M2 h => ?_)
    refine jv_aload_n C dX4_readSemicolon_11 rfl 0 rfl ?_
    refine jv_aload_n C dX4_readSemicolon_12 rfl 0 rfl ?_
    refine jv_getI C fa_X4_38 dX4_readSemicolon_13 h (fun v3 h => ?_)
    refine jv_iconst (v := 4) C dX4_readSemicolon_16 (by decide) ?_
    refine jv_icmp_eq (tgt := 24) C dX4_readSemicolon_17 (by decide) h (fun h => ?_) (fun h => ?_)
    · refine jv_iconst (v := 0) C dX4_readSemicolon_24 (by decide) ?_
      refine jv_iconst (v := 1) C dX4_readSemicolon_25 (by decide) ?_
      refine jv_vV0 (As := [.int 0, .int 1]) C lk_X4_70 rfl dX4_readSemicolon_26 rfl rfl (by decide) (by decide) (by decide) (Nat.le_of_ble_eq_true rfl) h (fun _ _ h => ct_X4_failIf h) (fun _ M4 h => ?_)
      exact jv_vret C hr dX4_readSemicolon_29 h
    · refine jv_iconst (v := 1) C dX4_readSemicolon_20 (by decide) ?_
      refine jv_goto (tgt := 25) C dX4_readSemicolon_21 (by decide) ?_
      refine jv_iconst (v := 1) C dX4_readSemicolon_25 (by decide) ?_
      refine jv_vV0 (As := [.int 1, .int 1]) C lk_X4_70 rfl dX4_readSemicolon_26 rfl rfl (by decide) (by decide) (by decide) (Nat.le_of_ble_eq_true rfl) h (fun _ _ h => ct_X4_failIf h) (fun _ M5 h => ?_)
      exact jv_vret C hr dX4_readSemicolon_29 h
theorem dX4_readStatement_0 : decode cX4_readStatement 0 = .ok (.aload_n 0, 1) := by decide +kernel
theorem dX4_readStatement_1 : decode cX4_readStatement 1 = .ok (.ldc 41, 2) := by decide +kernel
theorem dX4_readStatement_3 : decode cX4_readStatement 3 = .ok (.invokevirtual 43, 3) := by decide +kernel
theorem dX4_readStatement_6 : decode cX4_readStatement 6 = .ok (.ifCond .eq 15, 3) := by decide +kernel
theorem dX4_readStatement_9 : decode cX4_readStatement 9 = .ok (.aload_n 0, 1) := by decide +kernel
theorem dX4_readStatement_10 : decode cX4_readStatement 10 = .ok (.aload_n 1, 1) := by decide +kernel
theorem dX4_readStatement_11 : decode cX4_readStatement 11 = .ok (.getfield 47, 3) := by decide +kernel
theorem dX4_readStatement_14 : decode cX4_readStatement 14 = .ok (.iconst 1, 1) := by decide +kernel
theorem dX4_readStatement_15 : decode cX4_readStatement 15 = .ok (.invokevirtual 53, 3) := by decide +kernel
theorem dX4_readStatement_18 : decode cX4_readStatement 18 = .ok (.goto 162, 3) := by decide +kernel
theorem dX4_readStatement_21 : decode cX4_readStatement 21 = .ok (.aload_n 0, 1) := by decide +kernel
theorem dX4_readStatement_22 : decode cX4_readStatement 22 = .ok (.ldc 57, 2) := by decide +kernel
theorem dX4_readStatement_24 : decode cX4_readStatement 24 = .ok (.invokevirtual 43, 3) := by decide +kernel
theorem dX4_readStatement_27 : decode cX4_readStatement 27 = .ok (.ifCond .eq 15, 3) := by decide +kernel
theorem dX4_readStatement_30 : decode cX4_readStatement 30 = .ok (.aload_n 0, 1) := by decide +kernel
theorem dX4_readStatement_31 : decode cX4_readStatement 31 = .ok (.aload_n 1, 1) := by decide +kernel
theorem dX4_readStatement_32 : decode cX4_readStatement 32 = .ok (.getfield 59, 3) := by decide +kernel
theorem dX4_readStatement_35 : decode cX4_readStatement 35 = .ok (.iconst 0, 1) := by decide +kernel
theorem dX4_readStatement_36 : decode cX4_readStatement 36 = .ok (.invokevirtual 53, 3) := by decide +kernel
theorem dX4_readStatement_39 : decode cX4_readStatement 39 = .ok (.goto 141, 3) := by decide +kernel
theorem dX4_readStatement_42 : decode cX4_readStatement 42 = .ok (.aload_n 0, 1) := by decide +kernel
theorem dX4_readStatement_43 : decode cX4_readStatement 43 = .ok (.ldc 62, 2) := by decide +kernel
theorem dX4_readStatement_45 : decode cX4_readStatement 45 = .ok (.invokevirtual 43, 3) := by decide +kernel
theorem dX4_readStatement_48 : decode cX4_readStatement 48 = .ok (.ifCond .eq 11, 3) := by decide +kernel
theorem dX4_readStatement_51 : decode cX4_readStatement 51 = .ok (.aload_n 0, 1) := by decide +kernel
theorem dX4_readStatement_52 : decode cX4_readStatement 52 = .ok (.aload_n 1, 1) := by decide +kernel
theorem dX4_readStatement_53 : decode cX4_readStatement 53 = .ok (.invokevirtual 64, 3) := by decide +kernel
theorem dX4_readStatement_56 : decode cX4_readStatement 56 = .ok (.goto 124, 3) := by decide +kernel
theorem dX4_readStatement_59 : decode cX4_readStatement 59 = .ok (.aload_n 0, 1) := by decide +kernel
theorem dX4_readStatement_60 : decode cX4_readStatement 60 = .ok (.ldc 68, 2) := by decide +kernel
theorem dX4_readStatement_62 : decode cX4_readStatement 62 = .ok (.invokevirtual 43, 3) := by decide +kernel
theorem dX4_readStatement_65 : decode cX4_readStatement 65 = .ok (.ifCond .eq 34, 3) := by decide +kernel
theorem dX4_readStatement_68 : decode cX4_readStatement 68 = .ok (.aload_n 0, 1) := by decide +kernel
theorem dX4_readStatement_69 : decode cX4_readStatement 69 = .ok (.aload_n 0, 1) := by decide +kernel
theorem dX4_readStatement_70 : decode cX4_readStatement 70 = .ok (.getfield 25, 3) := by decide +kernel
theorem dX4_readStatement_73 : decode cX4_readStatement 73 = .ok (.iconst 3, 1) := by decide +kernel
theorem dX4_readStatement_74 : decode cX4_readStatement 74 = .ok (.invokevirtual 70, 3) := by decide +kernel
theorem dX4_readStatement_77 : decode cX4_readStatement 77 = .ok (.aload_n 0, 1) := by decide +kernel
theorem dX4_readStatement_78 : decode cX4_readStatement 78 = .ok (.iconst 1, 1) := by decide +kernel
theorem dX4_readStatement_79 : decode cX4_readStatement 79 = .ok (.putfield 25, 3) := by decide +kernel
theorem dX4_readStatement_82 : decode cX4_readStatement 82 = .ok (.aload_n 1, 1) := by decide +kernel
theorem dX4_readStatement_83 : decode cX4_readStatement 83 = .ok (.aload_n 0, 1) := by decide +kernel
theorem dX4_readStatement_84 : decode cX4_readStatement 84 = .ok (.sipush 1000, 3) := by decide +kernel
theorem dX4_readStatement_87 : decode cX4_readStatement 87 = .ok (.sipush 4000, 3) := by decide +kernel
theorem dX4_readStatement_90 : decode cX4_readStatement 90 = .ok (.invokevirtual 74, 3) := by decide +kernel
theorem dX4_readStatement_93 : decode cX4_readStatement 93 = .ok (.putfield 78, 3) := by decide +kernel
theorem dX4_readStatement_96 : decode cX4_readStatement 96 = .ok (.goto 84, 3) := by decide +kernel
theorem dX4_readStatement_99 : decode cX4_readStatement 99 = .ok (.aload_n 0, 1) := by decide +kernel
theorem dX4_readStatement_100 : decode cX4_readStatement 100 = .ok (.ldc 80, 2) := by decide +kernel
theorem dX4_readStatement_102 : decode cX4_readStatement 102 = .ok (.invokevirtual 43, 3) := by decide +kernel
theorem dX4_readStatement_105 : decode cX4_readStatement 105 = .ok (.ifCond .eq 31, 3) := by decide +kernel
theorem dX4_readStatement_108 : decode cX4_readStatement 108 = .ok (.aload_n 0, 1) := by decide +kernel
theorem dX4_readStatement_109 : decode cX4_readStatement 109 = .ok (.aload_n 0, 1) := by decide +kernel
theorem dX4_readStatement_110 : decode cX4_readStatement 110 = .ok (.getfield 29, 3) := by decide +kernel
theorem dX4_readStatement_113 : decode cX4_readStatement 113 = .ok (.iconst 3, 1) := by decide +kernel
theorem dX4_readStatement_114 : decode cX4_readStatement 114 = .ok (.invokevirtual 70, 3) := by decide +kernel
theorem dX4_readStatement_117 : decode cX4_readStatement 117 = .ok (.aload_n 0, 1) := by decide +kernel
theorem dX4_readStatement_118 : decode cX4_readStatement 118 = .ok (.iconst 1, 1) := by decide +kernel
theorem dX4_readStatement_119 : decode cX4_readStatement 119 = .ok (.putfield 29, 3) := by decide +kernel
theorem dX4_readStatement_122 : decode cX4_readStatement 122 = .ok (.aload_n 1, 1) := by decide +kernel
theorem dX4_readStatement_123 : decode cX4_readStatement 123 = .ok (.aload_n 0, 1) := by decide +kernel
theorem dX4_readStatement_124 : decode cX4_readStatement 124 = .ok (.iconst 0, 1) := by decide +kernel
theorem dX4_readStatement_125 : decode cX4_readStatement 125 = .ok (.bipush 20, 2) := by decide +kernel
theorem dX4_readStatement_127 : decode cX4_readStatement 127 = .ok (.invokevirtual 74, 3) := by decide +kernel
theorem dX4_readStatement_130 : decode cX4_readStatement 130 = .ok (.putfield 82, 3) := by decide +kernel
theorem dX4_readStatement_133 : decode cX4_readStatement 133 = .ok (.goto 47, 3) := by decide +kernel
theorem dX4_readStatement_136 : decode cX4_readStatement 136 = .ok (.aload_n 0, 1) := by decide +kernel
theorem dX4_readStatement_137 : decode cX4_readStatement 137 = .ok (.ldc 85, 2) := by decide +kernel
theorem dX4_readStatement_139 : decode cX4_readStatement 139 = .ok (.invokevirtual 43, 3) := by decide +kernel
theorem dX4_readStatement_142 : decode cX4_readStatement 142 = .ok (.ifCond .eq 32, 3) := by decide +kernel
theorem dX4_readStatement_145 : decode cX4_readStatement 145 = .ok (.aload_n 0, 1) := by decide +kernel
theorem dX4_readStatement_146 : decode cX4_readStatement 146 = .ok (.aload_n 0, 1) := by decide +kernel
theorem dX4_readStatement_147 : decode cX4_readStatement 147 = .ok (.getfield 32, 3) := by decide +kernel
theorem dX4_readStatement_150 : decode cX4_readStatement 150 = .ok (.iconst 3, 1) := by decide +kernel
theorem dX4_readStatement_151 : decode cX4_readStatement 151 = .ok (.invokevirtual 70, 3) := by decide +kernel
theorem dX4_readStatement_154 : decode cX4_readStatement 154 = .ok (.aload_n 0, 1) := by decide +kernel
theorem dX4_readStatement_155 : decode cX4_readStatement 155 = .ok (.iconst 1, 1) := by decide +kernel
theorem dX4_readStatement_156 : decode cX4_readStatement 156 = .ok (.putfield 32, 3) := by decide +kernel
theorem dX4_readStatement_159 : decode cX4_readStatement 159 = .ok (.aload_n 1, 1) := by decide +kernel
theorem dX4_readStatement_160 : decode cX4_readStatement 160 = .ok (.aload_n 0, 1) := by decide +kernel
theorem dX4_readStatement_161 : decode cX4_readStatement 161 = .ok (.iconst 0, 1) := by decide +kernel
theorem dX4_readStatement_162 : decode cX4_readStatement 162 = .ok (.sipush 2000, 3) := by decide +kernel
theorem dX4_readStatement_165 : decode cX4_readStatement 165 = .ok (.invokevirtual 74, 3) := by decide +kernel
theorem dX4_readStatement_168 : decode cX4_readStatement 168 = .ok (.putfield 87, 3) := by decide +kernel
theorem dX4_readStatement_171 : decode cX4_readStatement 171 = .ok (.goto 9, 3) := by decide +kernel
theorem dX4_readStatement_174 : decode cX4_readStatement 174 = .ok (.aload_n 0, 1) := by decide +kernel
theorem dX4_readStatement_175 : decode cX4_readStatement 175 = .ok (.iconst 1, 1) := by decide +kernel
theorem dX4_readStatement_176 : decode cX4_readStatement 176 = .ok (.iconst 1, 1) := by decide +kernel
theorem dX4_readStatement_177 : decode cX4_readStatement 177 = .ok (.invokevirtual 70, 3) := by decide +kernel
theorem dX4_readStatement_180 : decode cX4_readStatement 180 = .ok (.aload_n 0, 1) := by decide +kernel
theorem dX4_readStatement_181 : decode cX4_readStatement 181 = .ok (.invokevirtual 89, 3) := by decide +kernel
theorem dX4_readStatement_184 : decode cX4_readStatement 184 = .ok (.return_, 1) := by decide +kernel
def fn_X4_readStatement (N : Nat) (M : Mem) (a0 : Nat) (a1 : Nat) : Option (Unit × Mem) :=
  (mm_ck M a0 4).bind fun _ => mm_b2 (fn_X4_isWord N M a0 0) fun v2 M1 =>
  if v2 = 0 then
    (mm_ck M1 a0 4).bind fun _ => mm_b2 (fn_X4_isWord N M1 a0 1) fun v4 M3 =>
    if v4 = 0 then
      (mm_ck M3 a0 4).bind fun _ => mm_b2 (fn_X4_isWord N M3 a0 2) fun v6 M5 =>
      if v6 = 0 then
        (mm_ck M5 a0 4).bind fun _ => mm_b2 (fn_X4_isWord N M5 a0 3) fun v8 M7 =>
        if v8 = 0 then
          (mm_ck M7 a0 4).bind fun _ => mm_b2 (fn_X4_isWord N M7 a0 4) fun v10 M9 =>
          if v10 = 0 then
            (mm_ck M9 a0 4).bind fun _ => mm_b2 (fn_X4_isWord N M9 a0 5) fun v12 M11 =>
            if v12 = 0 then
              (mm_ck M11 a0 4).bind fun _ => mm_b2 (fn_X4_failIf N M11 a0 1 1) fun _ M13 =>
              (mm_ck M13 a0 4).bind fun _ => mm_b2 (fn_X4_readSemicolon N M13 a0) fun _ M14 =>
              some ((), M14)
            else
              (mm_gI M11 a0 4 8).bind fun v15 =>
              (mm_ck M11 a0 4).bind fun _ => mm_b2 (fn_X4_failIf N M11 a0 v15 3) fun _ M16 =>
              (mm_pZ M16 a0 4 8 1).bind fun M17 =>
              (mm_ck M17 a0 4).bind fun _ => mm_b2 (fn_X4_readNumber N M17 a0 0 2000) fun v19 M18 =>
              (mm_pV M18 a1 0 6 (.int v19)).bind fun M20 =>
              (mm_ck M20 a0 4).bind fun _ => mm_b2 (fn_X4_readSemicolon N M20 a0) fun _ M21 =>
              some ((), M21)
          else
            (mm_gI M9 a0 4 7).bind fun v22 =>
            (mm_ck M9 a0 4).bind fun _ => mm_b2 (fn_X4_failIf N M9 a0 v22 3) fun _ M23 =>
            (mm_pZ M23 a0 4 7 1).bind fun M24 =>
            (mm_ck M24 a0 4).bind fun _ => mm_b2 (fn_X4_readNumber N M24 a0 0 20) fun v26 M25 =>
            (mm_pV M25 a1 0 5 (.int v26)).bind fun M27 =>
            (mm_ck M27 a0 4).bind fun _ => mm_b2 (fn_X4_readSemicolon N M27 a0) fun _ M28 =>
            some ((), M28)
        else
          (mm_gI M7 a0 4 6).bind fun v29 =>
          (mm_ck M7 a0 4).bind fun _ => mm_b2 (fn_X4_failIf N M7 a0 v29 3) fun _ M30 =>
          (mm_pZ M30 a0 4 6 1).bind fun M31 =>
          (mm_ck M31 a0 4).bind fun _ => mm_b2 (fn_X4_readNumber N M31 a0 1000 4000) fun v33 M32 =>
          (mm_pV M32 a1 0 4 (.int v33)).bind fun M34 =>
          (mm_ck M34 a0 4).bind fun _ => mm_b2 (fn_X4_readSemicolon N M34 a0) fun _ M35 =>
          some ((), M35)
      else
        (mm_ck M5 a0 4).bind fun _ => mm_b2 (fn_X4_readBin N M5 a0 a1) fun _ M36 =>
        (mm_ck M36 a0 4).bind fun _ => mm_b2 (fn_X4_readSemicolon N M36 a0) fun _ M37 =>
        some ((), M37)
    else
      (mm_gR M3 a1 0 1).bind fun b38 =>
      (mm_ck M3 a0 4).bind fun _ => mm_b2 (fn_X4_readKind N M3 a0 b38 0) fun _ M39 =>
      (mm_ck M39 a0 4).bind fun _ => mm_b2 (fn_X4_readSemicolon N M39 a0) fun _ M40 =>
      some ((), M40)
  else
    (mm_gR M1 a1 0 0).bind fun b41 =>
    (mm_ck M1 a0 4).bind fun _ => mm_b2 (fn_X4_readKind N M1 a0 b41 1) fun _ M42 =>
    (mm_ck M42 a0 4).bind fun _ => mm_b2 (fn_X4_readSemicolon N M42 a0) fun _ M43 =>
    some ((), M43)
set_option maxRecDepth 100000 in
set_option maxHeartbeats 4000000 in
theorem ct_X4_readStatement {l : Launch} {ω : Wd} {k N : Nat} {M : Mem} {a0 : Nat} {a1 : Nat} {r : Unit} {M' : Mem} (h : fn_X4_readStatement N M a0 a1 = some (r, M')) : CM l ω k yX4_readStatement cX4_readStatement 2 none 5 0 0 [.ref a0, .ref a1] M none M' := by
  refine CM.of (by decide) (Nat.le_of_ble_eq_true rfl) fun Γ hl C hr hi => ?_
  subst hl
  unfold fn_X4_readStatement at h
  refine jv_aload_n C dX4_readStatement_0 rfl 0 rfl ?_
  refine jv_ldcS (u := 0) C ls_X4_41 rfl (by decide) dX4_readStatement_1 ?_
  refine jv_vI0 (As := [.float 0]) C lk_X4_43 rfl dX4_readStatement_3 rfl rfl (by decide) (by decide) (by decide) (Nat.le_of_ble_eq_true rfl) h (fun _ _ h => ct_X4_isWord h) (fun v2 M1 h => ?_)
  refine jv_if_eq (tgt := 21) C dX4_readStatement_6 (by decide) h (fun h => ?_) (fun h => ?_)
  · refine jv_aload_n C dX4_readStatement_21 rfl 0 rfl ?_
    refine jv_ldcS (u := 1) C ls_X4_57 rfl (by decide) dX4_readStatement_22 ?_
    refine jv_vI0 (As := [.float 1]) C lk_X4_43 rfl dX4_readStatement_24 rfl rfl (by decide) (by decide) (by decide) (Nat.le_of_ble_eq_true rfl) h (fun _ _ h => ct_X4_isWord h) (fun v4 M3 h => ?_)
    refine jv_if_eq (tgt := 42) C dX4_readStatement_27 (by decide) h (fun h => ?_) (fun h => ?_)
    · refine jv_aload_n C dX4_readStatement_42 rfl 0 rfl ?_
      refine jv_ldcS (u := 2) C ls_X4_62 rfl (by decide) dX4_readStatement_43 ?_
      refine jv_vI0 (As := [.float 2]) C lk_X4_43 rfl dX4_readStatement_45 rfl rfl (by decide) (by decide) (by decide) (Nat.le_of_ble_eq_true rfl) h (fun _ _ h => ct_X4_isWord h) (fun v6 M5 h => ?_)
      refine jv_if_eq (tgt := 59) C dX4_readStatement_48 (by decide) h (fun h => ?_) (fun h => ?_)
      · refine jv_aload_n C dX4_readStatement_59 rfl 0 rfl ?_
        refine jv_ldcS (u := 3) C ls_X4_68 rfl (by decide) dX4_readStatement_60 ?_
        refine jv_vI0 (As := [.float 3]) C lk_X4_43 rfl dX4_readStatement_62 rfl rfl (by decide) (by decide) (by decide) (Nat.le_of_ble_eq_true rfl) h (fun _ _ h => ct_X4_isWord h) (fun v8 M7 h => ?_)
        refine jv_if_eq (tgt := 99) C dX4_readStatement_65 (by decide) h (fun h => ?_) (fun h => ?_)
        · refine jv_aload_n C dX4_readStatement_99 rfl 0 rfl ?_
          refine jv_ldcS (u := 4) C ls_X4_80 rfl (by decide) dX4_readStatement_100 ?_
          refine jv_vI0 (As := [.float 4]) C lk_X4_43 rfl dX4_readStatement_102 rfl rfl (by decide) (by decide) (by decide) (Nat.le_of_ble_eq_true rfl) h (fun _ _ h => ct_X4_isWord h) (fun v10 M9 h => ?_)
          refine jv_if_eq (tgt := 136) C dX4_readStatement_105 (by decide) h (fun h => ?_) (fun h => ?_)
          · refine jv_aload_n C dX4_readStatement_136 rfl 0 rfl ?_
            refine jv_ldcS (u := 5) C ls_X4_85 rfl (by decide) dX4_readStatement_137 ?_
            refine jv_vI0 (As := [.float 5]) C lk_X4_43 rfl dX4_readStatement_139 rfl rfl (by decide) (by decide) (by decide) (Nat.le_of_ble_eq_true rfl) h (fun _ _ h => ct_X4_isWord h) (fun v12 M11 h => ?_)
            refine jv_if_eq (tgt := 174) C dX4_readStatement_142 (by decide) h (fun h => ?_) (fun h => ?_)
            · refine jv_aload_n C dX4_readStatement_174 rfl 0 rfl ?_
              refine jv_iconst (v := 1) C dX4_readStatement_175 (by decide) ?_
              refine jv_iconst (v := 1) C dX4_readStatement_176 (by decide) ?_
              refine jv_vV0 (As := [.int 1, .int 1]) C lk_X4_70 rfl dX4_readStatement_177 rfl rfl (by decide) (by decide) (by decide) (Nat.le_of_ble_eq_true rfl) h (fun _ _ h => ct_X4_failIf h) (fun _ M13 h => ?_)
              refine jv_aload_n C dX4_readStatement_180 rfl 0 rfl ?_
              refine jv_vV0 (As := []) C lk_X4_89 rfl dX4_readStatement_181 rfl rfl (by decide) (by decide) (by decide) (Nat.le_of_ble_eq_true rfl) h (fun _ _ h => ct_X4_readSemicolon h) (fun _ M14 h => ?_)
              exact jv_vret C hr dX4_readStatement_184 h
            · refine jv_aload_n C dX4_readStatement_145 rfl 0 rfl ?_
              refine jv_aload_n C dX4_readStatement_146 rfl 0 rfl ?_
              refine jv_getI C fa_X4_32 dX4_readStatement_147 h (fun v15 h => ?_)
              refine jv_iconst (v := 3) C dX4_readStatement_150 (by decide) ?_
              refine jv_vV0 (As := [.int v15, .int 3]) C lk_X4_70 rfl dX4_readStatement_151 rfl rfl (by decide) (by decide) (by decide) (Nat.le_of_ble_eq_true rfl) h (fun _ _ h => ct_X4_failIf h) (fun _ M16 h => ?_)
              refine jv_aload_n C dX4_readStatement_154 rfl 0 rfl ?_
              refine jv_iconst (v := 1) C dX4_readStatement_155 (by decide) ?_
              refine jv_putZ C fp_X4_32 dX4_readStatement_156 h (fun M17 h => ?_)
              refine jv_aload_n C dX4_readStatement_159 rfl 1 rfl ?_
              refine jv_aload_n C dX4_readStatement_160 rfl 0 rfl ?_
              refine jv_iconst (v := 0) C dX4_readStatement_161 (by decide) ?_
              refine jv_sipush (v := 2000) C dX4_readStatement_162 (by decide) ?_
              refine jv_vI0 (As := [.int 0, .int 2000]) C lk_X4_74 rfl dX4_readStatement_165 rfl rfl (by decide) (by decide) (by decide) (Nat.le_of_ble_eq_true rfl) h (fun _ _ h => ct_X4_readNumber h) (fun v19 M18 h => ?_)
              refine jv_putI C fp_X4_87 dX4_readStatement_168 h (fun M20 h => ?_)
              refine jv_goto (tgt := 180) C dX4_readStatement_171 (by decide) ?_
              refine jv_aload_n C dX4_readStatement_180 rfl 0 rfl ?_
              refine jv_vV0 (As := []) C lk_X4_89 rfl dX4_readStatement_181 rfl rfl (by decide) (by decide) (by decide) (Nat.le_of_ble_eq_true rfl) h (fun _ _ h => ct_X4_readSemicolon h) (fun _ M21 h => ?_)
              exact jv_vret C hr dX4_readStatement_184 h
          · refine jv_aload_n C dX4_readStatement_108 rfl 0 rfl ?_
            refine jv_aload_n C dX4_readStatement_109 rfl 0 rfl ?_
            refine jv_getI C fa_X4_29 dX4_readStatement_110 h (fun v22 h => ?_)
            refine jv_iconst (v := 3) C dX4_readStatement_113 (by decide) ?_
            refine jv_vV0 (As := [.int v22, .int 3]) C lk_X4_70 rfl dX4_readStatement_114 rfl rfl (by decide) (by decide) (by decide) (Nat.le_of_ble_eq_true rfl) h (fun _ _ h => ct_X4_failIf h) (fun _ M23 h => ?_)
            refine jv_aload_n C dX4_readStatement_117 rfl 0 rfl ?_
            refine jv_iconst (v := 1) C dX4_readStatement_118 (by decide) ?_
            refine jv_putZ C fp_X4_29 dX4_readStatement_119 h (fun M24 h => ?_)
            refine jv_aload_n C dX4_readStatement_122 rfl 1 rfl ?_
            refine jv_aload_n C dX4_readStatement_123 rfl 0 rfl ?_
            refine jv_iconst (v := 0) C dX4_readStatement_124 (by decide) ?_
            refine jv_bipush (v := 20) C dX4_readStatement_125 (by decide) ?_
            refine jv_vI0 (As := [.int 0, .int 20]) C lk_X4_74 rfl dX4_readStatement_127 rfl rfl (by decide) (by decide) (by decide) (Nat.le_of_ble_eq_true rfl) h (fun _ _ h => ct_X4_readNumber h) (fun v26 M25 h => ?_)
            refine jv_putI C fp_X4_82 dX4_readStatement_130 h (fun M27 h => ?_)
            refine jv_goto (tgt := 180) C dX4_readStatement_133 (by decide) ?_
            refine jv_aload_n C dX4_readStatement_180 rfl 0 rfl ?_
            refine jv_vV0 (As := []) C lk_X4_89 rfl dX4_readStatement_181 rfl rfl (by decide) (by decide) (by decide) (Nat.le_of_ble_eq_true rfl) h (fun _ _ h => ct_X4_readSemicolon h) (fun _ M28 h => ?_)
            exact jv_vret C hr dX4_readStatement_184 h
        · refine jv_aload_n C dX4_readStatement_68 rfl 0 rfl ?_
          refine jv_aload_n C dX4_readStatement_69 rfl 0 rfl ?_
          refine jv_getI C fa_X4_25 dX4_readStatement_70 h (fun v29 h => ?_)
          refine jv_iconst (v := 3) C dX4_readStatement_73 (by decide) ?_
          refine jv_vV0 (As := [.int v29, .int 3]) C lk_X4_70 rfl dX4_readStatement_74 rfl rfl (by decide) (by decide) (by decide) (Nat.le_of_ble_eq_true rfl) h (fun _ _ h => ct_X4_failIf h) (fun _ M30 h => ?_)
          refine jv_aload_n C dX4_readStatement_77 rfl 0 rfl ?_
          refine jv_iconst (v := 1) C dX4_readStatement_78 (by decide) ?_
          refine jv_putZ C fp_X4_25 dX4_readStatement_79 h (fun M31 h => ?_)
          refine jv_aload_n C dX4_readStatement_82 rfl 1 rfl ?_
          refine jv_aload_n C dX4_readStatement_83 rfl 0 rfl ?_
          refine jv_sipush (v := 1000) C dX4_readStatement_84 (by decide) ?_
          refine jv_sipush (v := 4000) C dX4_readStatement_87 (by decide) ?_
          refine jv_vI0 (As := [.int 1000, .int 4000]) C lk_X4_74 rfl dX4_readStatement_90 rfl rfl (by decide) (by decide) (by decide) (Nat.le_of_ble_eq_true rfl) h (fun _ _ h => ct_X4_readNumber h) (fun v33 M32 h => ?_)
          refine jv_putI C fp_X4_78 dX4_readStatement_93 h (fun M34 h => ?_)
          refine jv_goto (tgt := 180) C dX4_readStatement_96 (by decide) ?_
          refine jv_aload_n C dX4_readStatement_180 rfl 0 rfl ?_
          refine jv_vV0 (As := []) C lk_X4_89 rfl dX4_readStatement_181 rfl rfl (by decide) (by decide) (by decide) (Nat.le_of_ble_eq_true rfl) h (fun _ _ h => ct_X4_readSemicolon h) (fun _ M35 h => ?_)
          exact jv_vret C hr dX4_readStatement_184 h
      · refine jv_aload_n C dX4_readStatement_51 rfl 0 rfl ?_
        refine jv_aload_n C dX4_readStatement_52 rfl 1 rfl ?_
        refine jv_vV0 (As := [.ref a1]) C lk_X4_64 rfl dX4_readStatement_53 rfl rfl (by decide) (by decide) (by decide) (Nat.le_of_ble_eq_true rfl) h (fun _ _ h => ct_X4_readBin h) (fun _ M36 h => ?_)
        refine jv_goto (tgt := 180) C dX4_readStatement_56 (by decide) ?_
        refine jv_aload_n C dX4_readStatement_180 rfl 0 rfl ?_
        refine jv_vV0 (As := []) C lk_X4_89 rfl dX4_readStatement_181 rfl rfl (by decide) (by decide) (by decide) (Nat.le_of_ble_eq_true rfl) h (fun _ _ h => ct_X4_readSemicolon h) (fun _ M37 h => ?_)
        exact jv_vret C hr dX4_readStatement_184 h
    · refine jv_aload_n C dX4_readStatement_30 rfl 0 rfl ?_
      refine jv_aload_n C dX4_readStatement_31 rfl 1 rfl ?_
      refine jv_getR C fa_X4_59 dX4_readStatement_32 h (fun b38 h => ?_)
      refine jv_iconst (v := 0) C dX4_readStatement_35 (by decide) ?_
      refine jv_vV0 (As := [.ref b38, .int 0]) C lk_X4_53 rfl dX4_readStatement_36 rfl rfl (by decide) (by decide) (by decide) (Nat.le_of_ble_eq_true rfl) h (fun _ _ h => ct_X4_readKind h) (fun _ M39 h => ?_)
      refine jv_goto (tgt := 180) C dX4_readStatement_39 (by decide) ?_
      refine jv_aload_n C dX4_readStatement_180 rfl 0 rfl ?_
      refine jv_vV0 (As := []) C lk_X4_89 rfl dX4_readStatement_181 rfl rfl (by decide) (by decide) (by decide) (Nat.le_of_ble_eq_true rfl) h (fun _ _ h => ct_X4_readSemicolon h) (fun _ M40 h => ?_)
      exact jv_vret C hr dX4_readStatement_184 h
  · refine jv_aload_n C dX4_readStatement_9 rfl 0 rfl ?_
    refine jv_aload_n C dX4_readStatement_10 rfl 1 rfl ?_
    refine jv_getR C fa_X4_47 dX4_readStatement_11 h (fun b41 h => ?_)
    refine jv_iconst (v := 1) C dX4_readStatement_14 (by decide) ?_
    refine jv_vV0 (As := [.ref b41, .int 1]) C lk_X4_53 rfl dX4_readStatement_15 rfl rfl (by decide) (by decide) (by decide) (Nat.le_of_ble_eq_true rfl) h (fun _ _ h => ct_X4_readKind h) (fun _ M42 h => ?_)
    refine jv_goto (tgt := 180) C dX4_readStatement_18 (by decide) ?_
    refine jv_aload_n C dX4_readStatement_180 rfl 0 rfl ?_
    refine jv_vV0 (As := []) C lk_X4_89 rfl dX4_readStatement_181 rfl rfl (by decide) (by decide) (by decide) (Nat.le_of_ble_eq_true rfl) h (fun _ _ h => ct_X4_readSemicolon h) (fun _ M43 h => ?_)
    exact jv_vret C hr dX4_readStatement_184 h
