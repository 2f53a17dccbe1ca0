theorem dX8_add_0 : decode cX8_add 0 = .ok (.aload_n 0, 1) := by decide +kernel
theorem dX8_add_1 : decode cX8_add 1 = .ok (.getfield 14, 3) := by decide +kernel
theorem dX8_add_4 : decode cX8_add 4 = .ok (.iload_n 1, 1) := by decide +kernel
theorem dX8_add_5 : decode cX8_add 5 = .ok (.invokevirtual 26, 3) := by decide +kernel
theorem dX8_add_8 : decode cX8_add 8 = .ok (.aload_n 0, 1) := by decide +kernel
theorem dX8_add_9 : decode cX8_add 9 = .ok (.getfield 20, 3) := by decide +kernel
theorem dX8_add_12 : decode cX8_add 12 = .ok (.iload_n 2, 1) := by decide +kernel
theorem dX8_add_13 : decode cX8_add 13 = .ok (.invokevirtual 26, 3) := by decide +kernel
theorem dX8_add_16 : decode cX8_add 16 = .ok (.return_, 1) := by decide +kernel
def fn_X8_add (N : Nat) (M : Mem) (a0 : Nat) (x1 : Int32) (x2 : Int32) : Option (Unit × Mem) :=
  (mm_gR M a0 8 0).bind fun b1 =>
  (mm_ck M b1 6).bind fun _ => mm_b2 (fn_X6_add N M b1 x1) fun _ M2 =>
  (mm_gR M2 a0 8 1).bind fun b3 =>
  (mm_ck M2 b3 6).bind fun _ => mm_b2 (fn_X6_add N M2 b3 x2) fun _ M4 =>
  some ((), M4)
set_option maxRecDepth 100000 in
set_option maxHeartbeats 4000000 in
theorem ct_X8_add {l : Launch} {ω : Wd} {k N : Nat} {M : Mem} {a0 : Nat} {x1 : Int32} {x2 : Int32} {r : Unit} {M' : Mem} (h : fn_X8_add N M a0 x1 x2 = some (r, M')) : CM l ω k yX8_add cX8_add 3 none 1 0 0 [.ref a0, .int x1, .int x2] M none M' := by
  refine CM.of (by decide) (Nat.le_of_ble_eq_true rfl) fun Γ hl C hr hi => ?_
  subst hl
  unfold fn_X8_add at h
  refine jv_aload_n C dX8_add_0 rfl 0 rfl ?_
  refine jv_getR C fa_X8_14 dX8_add_1 h (fun b1 h => ?_)
  refine jv_iload_n C dX8_add_4 rfl 1 rfl ?_
  refine jv_vV0 (As := [.int x1]) C lk_X8_26 rfl dX8_add_5 rfl rfl (by decide) (by decide) (by decide) (Nat.le_of_ble_eq_true rfl) h (fun _ _ h => ct_X6_add h) (fun _ M2 h => ?_)
  refine jv_aload_n C dX8_add_8 rfl 0 rfl ?_
  refine jv_getR C fa_X8_20 dX8_add_9 h (fun b3 h => ?_)
  refine jv_iload_n C dX8_add_12 rfl 2 rfl ?_
  refine jv_vV0 (As := [.int x2]) C lk_X8_26 rfl dX8_add_13 rfl rfl (by decide) (by decide) (by decide) (Nat.le_of_ble_eq_true rfl) h (fun _ _ h => ct_X6_add h) (fun _ M4 h => ?_)
  exact jv_vret C hr dX8_add_16 h
theorem dX8_begin_0 : decode cX8_begin 0 = .ok (.aload_n 0, 1) := by decide +kernel
theorem dX8_begin_1 : decode cX8_begin 1 = .ok (.getfield 14, 3) := by decide +kernel
theorem dX8_begin_4 : decode cX8_begin 4 = .ok (.invokevirtual 23, 3) := by decide +kernel
theorem dX8_begin_7 : decode cX8_begin 7 = .ok (.aload_n 0, 1) := by decide +kernel
theorem dX8_begin_8 : decode cX8_begin 8 = .ok (.getfield 20, 3) := by decide +kernel
theorem dX8_begin_11 : decode cX8_begin 11 = .ok (.invokevirtual 23, 3) := by decide +kernel
theorem dX8_begin_14 : decode cX8_begin 14 = .ok (.return_, 1) := by decide +kernel
def fn_X8_begin (N : Nat) (M : Mem) (a0 : Nat) : Option (Unit × Mem) :=
  (mm_gR M a0 8 0).bind fun b1 =>
  (mm_ck M b1 6).bind fun _ => mm_b2 (fn_X6_empty N M b1) fun _ M2 =>
  (mm_gR M2 a0 8 1).bind fun b3 =>
  (mm_ck M2 b3 6).bind fun _ => mm_b2 (fn_X6_empty N M2 b3) fun _ M4 =>
  some ((), M4)
set_option maxRecDepth 100000 in
set_option maxHeartbeats 4000000 in
theorem ct_X8_begin {l : Launch} {ω : Wd} {k N : Nat} {M : Mem} {a0 : Nat} {r : Unit} {M' : Mem} (h : fn_X8_begin N M a0 = some (r, M')) : CM l ω k yX8_begin cX8_begin 1 none 1 0 0 [.ref a0] M none M' := by
  refine CM.of (by decide) (Nat.le_of_ble_eq_true rfl) fun Γ hl C hr hi => ?_
  subst hl
  unfold fn_X8_begin at h
  refine jv_aload_n C dX8_begin_0 rfl 0 rfl ?_
  refine jv_getR C fa_X8_14 dX8_begin_1 h (fun b1 h => ?_)
  refine jv_vV0 (As := []) C lk_X8_23 rfl dX8_begin_4 rfl rfl (by decide) (by decide) (by decide) (Nat.le_of_ble_eq_true rfl) h (fun _ _ h => ct_X6_empty h) (fun _ M2 h => ?_)
  refine jv_aload_n C dX8_begin_7 rfl 0 rfl ?_
  refine jv_getR C fa_X8_20 dX8_begin_8 h (fun b3 h => ?_)
  refine jv_vV0 (As := []) C lk_X8_23 rfl dX8_begin_11 rfl rfl (by decide) (by decide) (by decide) (Nat.le_of_ble_eq_true rfl) h (fun _ _ h => ct_X6_empty h) (fun _ M4 h => ?_)
  exact jv_vret C hr dX8_begin_14 h
theorem dX8_riseAt_0 : decode cX8_riseAt 0 = .ok (.iconst 0, 1) := by decide +kernel
theorem dX8_riseAt_1 : decode cX8_riseAt 1 = .ok (.istore_n 2, 1) := by decide +kernel
theorem dX8_riseAt_2 : decode cX8_riseAt 2 = .ok (.iconst 0, 1) := by decide +kernel
theorem dX8_riseAt_3 : decode cX8_riseAt 3 = .ok (.istore_n 3, 1) := by decide +kernel
theorem dX8_riseAt_4 : decode cX8_riseAt 4 = .ok (.iload_n 3, 1) := by decide +kernel
theorem dX8_riseAt_5 : decode cX8_riseAt 5 = .ok (.aload_n 0, 1) := by decide +kernel
theorem dX8_riseAt_6 : decode cX8_riseAt 6 = .ok (.getfield 14, 3) := by decide +kernel
theorem dX8_riseAt_9 : decode cX8_riseAt 9 = .ok (.getfield 29, 3) := by decide +kernel
theorem dX8_riseAt_12 : decode cX8_riseAt 12 = .ok (.if_icmp .ge 32, 3) := by decide +kernel
theorem dX8_riseAt_15 : decode cX8_riseAt 15 = .ok (.aload_n 0, 1) := by decide +kernel
theorem dX8_riseAt_16 : decode cX8_riseAt 16 = .ok (.getfield 14, 3) := by decide +kernel
theorem dX8_riseAt_19 : decode cX8_riseAt 19 = .ok (.iload_n 3, 1) := by decide +kernel
theorem dX8_riseAt_20 : decode cX8_riseAt 20 = .ok (.invokevirtual 33, 3) := by decide +kernel
theorem dX8_riseAt_23 : decode cX8_riseAt 23 = .ok (.iload_n 1, 1) := by decide +kernel
theorem dX8_riseAt_24 : decode cX8_riseAt 24 = .ok (.if_icmp .ge 14, 3) := by decide +kernel
theorem dX8_riseAt_27 : decode cX8_riseAt 27 = .ok (.iload_n 2, 1) := by decide +kernel
theorem dX8_riseAt_28 : decode cX8_riseAt 28 = .ok (.aload_n 0, 1) := by decide +kernel
theorem dX8_riseAt_29 : decode cX8_riseAt 29 = .ok (.getfield 20, 3) := by decide +kernel
theorem dX8_riseAt_32 : decode cX8_riseAt 32 = .ok (.iload_n 3, 1) := by decide +kernel
theorem dX8_riseAt_33 : decode cX8_riseAt 33 = .ok (.invokevirtual 33, 3) := by decide +kernel
theorem dX8_riseAt_36 : decode cX8_riseAt 36 = .ok (.iadd, 1) := by decide +kernel
theorem dX8_riseAt_37 : decode cX8_riseAt 37 = .ok (.istore_n 2, 1) := by decide +kernel
theorem dX8_riseAt_38 : decode cX8_riseAt 38 = .ok (.iinc 3 1, 3) := by decide +kernel
theorem dX8_riseAt_41 : decode cX8_riseAt 41 = .ok (.goto (-37), 3) := by decide +kernel
theorem dX8_riseAt_44 : decode cX8_riseAt 44 = .ok (.iload_n 2, 1) := by decide +kernel
theorem dX8_riseAt_45 : decode cX8_riseAt 45 = .ok (.ireturn, 1) := by decide +kernel
def fn_X8_riseAt_38 (N : Nat) (K4 : Mem → Nat → Int32 → Int32 → Int32 → Option (Int32 × Mem)) (M : Mem) (a0 : Nat) (x1 : Int32) (x2 : Int32) (x3 : Int32) : Option (Int32 × Mem) :=
  K4 M a0 x1 x2 ((x3 + 1))
set_option maxRecDepth 100000 in
set_option maxHeartbeats 4000000 in
theorem bk_X8_riseAt_38 {Γ : Gm} {ω : Wd} {k N : Nat} {r : Int32} {M' : Mem} (C : Cx Γ cX8_riseAt 4 RX8 ω 1 0 0) (hr : Γ.meth.sig.returnType = (some .int)) {K4 : Mem → Nat → Int32 → Int32 → Int32 → Option (Int32 × Mem)} (hK4 : ∀ (M : Mem) (a0 : Nat) (x1 : Int32) (x2 : Int32) (x3 : Int32), K4 M a0 x1 x2 x3 = some (r, M') → JJ Γ (QF Γ ω k 0 0 (some (.int r)) M') 4 ω k M 0 0 4 [(0, .ref a0), (1, .int x1), (2, .int x2), (3, .int x3)] []) (M : Mem) (a0 : Nat) (x1 : Int32) (x2 : Int32) (x3 : Int32) (h : fn_X8_riseAt_38 N K4 M a0 x1 x2 x3 = some (r, M')) : JJ Γ (QF Γ ω k 0 0 (some (.int r)) M') 4 ω k M 0 0 38 [(0, .ref a0), (1, .int x1), (2, .int x2), (3, .int x3)] [] := by
  unfold fn_X8_riseAt_38 at h
  refine jv_iinc (v := 1) (lv' := [(3, .int (x3 + 1)), (0, .ref a0), (1, .int x1), (2, .int x2)]) C dX8_riseAt_38 3 rfl (by decide) (by decide) rfl ?_
  refine jv_goto (tgt := 4) C dX8_riseAt_41 (by decide) ?_
  refine jv_sub [1, 2, 3, 0] rfl ?_
  exact hK4 _ _ _ _ _ h
def fn_X8_riseAt_4 (N : Nat) : Nat → Mem → Nat → Int32 → Int32 → Int32 → Option (Int32 × Mem)
  | 0, _, _, _, _, _ => none
  | n + 1, M, a0, x1, x2, x3 =>
    (mm_gR M a0 8 0).bind fun b1 =>
    (mm_gI M b1 6 1).bind fun v2 =>
    if v2 ≤ x3 then
      some (x2, M)
    else
      (mm_gR M a0 8 0).bind fun b3 =>
      (mm_ck M b3 6).bind fun _ => mm_b2 (fn_X6_at N M b3 x3) fun v5 M4 =>
      if x1 ≤ v5 then
        fn_X8_riseAt_38 N (fn_X8_riseAt_4 N n) M4 a0 x1 x2 x3
      else
        (mm_gR M4 a0 8 1).bind fun b6 =>
        (mm_ck M4 b6 6).bind fun _ => mm_b2 (fn_X6_at N M4 b6 x3) fun v8 M7 =>
        fn_X8_riseAt_38 N (fn_X8_riseAt_4 N n) M7 a0 x1 ((x2 + v8)) x3
set_option maxRecDepth 100000 in
set_option maxHeartbeats 4000000 in
theorem bk_X8_riseAt_4 {Γ : Gm} {ω : Wd} {k N : Nat} {r : Int32} {M' : Mem} (C : Cx Γ cX8_riseAt 4 RX8 ω 1 0 0) (hr : Γ.meth.sig.returnType = (some .int)) : ∀ (n : Nat) (M : Mem) (a0 : Nat) (x1 : Int32) (x2 : Int32) (x3 : Int32), fn_X8_riseAt_4 N n M a0 x1 x2 x3 = some (r, M') → JJ Γ (QF Γ ω k 0 0 (some (.int r)) M') 4 ω k M 0 0 4 [(0, .ref a0), (1, .int x1), (2, .int x2), (3, .int x3)] [] := by
  intro n
  induction n with
  | zero => intro M a0 x1 x2 x3 h; exact jv_no h
  | succ n ih =>
    intro M a0 x1 x2 x3 h
    rw [fn_X8_riseAt_4.eq_2] at h
    refine jv_iload_n C dX8_riseAt_4 rfl 3 rfl ?_
    refine jv_aload_n C dX8_riseAt_5 rfl 0 rfl ?_
    refine jv_getR C fa_X8_14 dX8_riseAt_6 h (fun b1 h => ?_)
    refine jv_getI C fa_X8_29 dX8_riseAt_9 h (fun v2 h => ?_)
    refine jv_icmp_ge (tgt := 44) C dX8_riseAt_12 (by decide) h (fun h => ?_) (fun h => ?_)
    · refine jv_iload_n C dX8_riseAt_44 rfl 2 rfl ?_
      exact jv_iret C hr dX8_riseAt_45 h
    · refine jv_aload_n C dX8_riseAt_15 rfl 0 rfl ?_
      refine jv_getR C fa_X8_14 dX8_riseAt_16 h (fun b3 h => ?_)
      refine jv_iload_n C dX8_riseAt_19 rfl 3 rfl ?_
      refine jv_vI0 (As := [.int x3]) C lk_X8_33 rfl dX8_riseAt_20 rfl rfl (by decide) (by decide) (by decide) (Nat.le_of_ble_eq_true rfl) h (fun _ _ h => ct_X6_at h) (fun v5 M4 h => ?_)
      refine jv_iload_n C dX8_riseAt_23 rfl 1 rfl ?_
      refine jv_icmp_ge (tgt := 38) C dX8_riseAt_24 (by decide) h (fun h => ?_) (fun h => ?_)
      · exact bk_X8_riseAt_38 C hr ih _ _ _ _ _ h
      · refine jv_iload_n C dX8_riseAt_27 rfl 2 rfl ?_
        refine jv_aload_n C dX8_riseAt_28 rfl 0 rfl ?_
        refine jv_getR C fa_X8_20 dX8_riseAt_29 h (fun b6 h => ?_)
        refine jv_iload_n C dX8_riseAt_32 rfl 3 rfl ?_
        refine jv_vI0 (As := [.int x3]) C lk_X8_33 rfl dX8_riseAt_33 rfl rfl (by decide) (by decide) (by decide) (Nat.le_of_ble_eq_true rfl) h (fun _ _ h => ct_X6_at h) (fun v8 M7 h => ?_)
        refine jv_iadd C dX8_riseAt_36 ?_
        refine jv_istore_n (lv' := [(2, .int (x2 + v8)), (0, .ref a0), (1, .int x1), (3, .int x3)]) C dX8_riseAt_37 rfl (by decide) rfl ?_
        refine jv_sub [1, 2, 0, 3] rfl ?_
        exact bk_X8_riseAt_38 C hr ih _ _ _ _ _ h
def fn_X8_riseAt (N : Nat) (M : Mem) (a0 : Nat) (x1 : Int32) : Option (Int32 × Mem) :=
  fn_X8_riseAt_4 N N M a0 x1 0 0
set_option maxRecDepth 100000 in
set_option maxHeartbeats 4000000 in
theorem ct_X8_riseAt {l : Launch} {ω : Wd} {k N : Nat} {M : Mem} {a0 : Nat} {x1 : Int32} {r : Int32} {M' : Mem} (h : fn_X8_riseAt N M a0 x1 = some (r, M')) : CM l ω k yX8_riseAt cX8_riseAt 4 (some .int) 1 0 0 [.ref a0, .int x1] M (some (.int r)) M' := by
  refine CM.of (by decide) (Nat.le_of_ble_eq_true rfl) fun Γ hl C hr hi => ?_
  subst hl
  unfold fn_X8_riseAt at h
  refine jv_iconst (v := 0) C dX8_riseAt_0 (by decide) ?_
  refine jv_istore_n (lv' := [(2, .int 0), (0, .ref a0), (1, .int x1)]) C dX8_riseAt_1 rfl (by decide) rfl ?_
  refine jv_iconst (v := 0) C dX8_riseAt_2 (by decide) ?_
  refine jv_istore_n (lv' := [(3, .int 0), (2, .int 0), (0, .ref a0), (1, .int x1)]) C dX8_riseAt_3 rfl (by decide) rfl ?_
  refine jv_sub [2, 3, 1, 0] rfl ?_
  exact bk_X8_riseAt_4 C hr _ _ _ _ _ _ h
theorem dX8_best_0 : decode cX8_best 0 = .ok (.iconst 0, 1) := by decide +kernel
theorem dX8_best_1 : decode cX8_best 1 = .ok (.istore_n 1, 1) := by decide +kernel
theorem dX8_best_2 : decode cX8_best 2 = .ok (.iconst 0, 1) := by decide +kernel
theorem dX8_best_3 : decode cX8_best 3 = .ok (.istore_n 2, 1) := by decide +kernel
theorem dX8_best_4 : decode cX8_best 4 = .ok (.iconst 0, 1) := by decide +kernel
theorem dX8_best_5 : decode cX8_best 5 = .ok (.istore_n 3, 1) := by decide +kernel
theorem dX8_best_6 : decode cX8_best 6 = .ok (.iload_n 3, 1) := by decide +kernel
theorem dX8_best_7 : decode cX8_best 7 = .ok (.aload_n 0, 1) := by decide +kernel
theorem dX8_best_8 : decode cX8_best 8 = .ok (.getfield 14, 3) := by decide +kernel
theorem dX8_best_11 : decode cX8_best 11 = .ok (.getfield 29, 3) := by decide +kernel
theorem dX8_best_14 : decode cX8_best 14 = .ok (.if_icmp .ge 61, 3) := by decide +kernel
theorem dX8_best_17 : decode cX8_best 17 = .ok (.aload_n 0, 1) := by decide +kernel
theorem dX8_best_18 : decode cX8_best 18 = .ok (.getfield 14, 3) := by decide +kernel
theorem dX8_best_21 : decode cX8_best 21 = .ok (.iload_n 3, 1) := by decide +kernel
theorem dX8_best_22 : decode cX8_best 22 = .ok (.invokevirtual 33, 3) := by decide +kernel
theorem dX8_best_25 : decode cX8_best 25 = .ok (.iconst 1, 1) := by decide +kernel
theorem dX8_best_26 : decode cX8_best 26 = .ok (.iadd, 1) := by decide +kernel
theorem dX8_best_27 : decode cX8_best 27 = .ok (.istore 4, 2) := by decide +kernel
theorem dX8_best_29 : decode cX8_best 29 = .ok (.aload_n 0, 1) := by decide +kernel
theorem dX8_best_30 : decode cX8_best 30 = .ok (.iload 4, 2) := by decide +kernel
theorem dX8_best_32 : decode cX8_best 32 = .ok (.invokevirtual 37, 3) := by decide +kernel
theorem dX8_best_35 : decode cX8_best 35 = .ok (.istore 5, 2) := by decide +kernel
theorem dX8_best_37 : decode cX8_best 37 = .ok (.iload 4, 2) := by decide +kernel
theorem dX8_best_39 : decode cX8_best 39 = .ok (.sipush 2000, 3) := by decide +kernel
theorem dX8_best_42 : decode cX8_best 42 = .ok (.if_icmp .gt 27, 3) := by decide +kernel
theorem dX8_best_45 : decode cX8_best 45 = .ok (.iload 5, 2) := by decide +kernel
theorem dX8_best_47 : decode cX8_best 47 = .ok (.iload_n 2, 1) := by decide +kernel
theorem dX8_best_48 : decode cX8_best 48 = .ok (.if_icmp .lt 15, 3) := by decide +kernel
theorem dX8_best_51 : decode cX8_best 51 = .ok (.iload 5, 2) := by decide +kernel
theorem dX8_best_53 : decode cX8_best 53 = .ok (.iload_n 2, 1) := by decide +kernel
theorem dX8_best_54 : decode cX8_best 54 = .ok (.if_icmp .ne 15, 3) := by decide +kernel
theorem dX8_best_57 : decode cX8_best 57 = .ok (.iload 4, 2) := by decide +kernel
theorem dX8_best_59 : decode cX8_best 59 = .ok (.iload_n 1, 1) := by decide +kernel
theorem dX8_best_60 : decode cX8_best 60 = .ok (.if_icmp .ge 9, 3) := by decide +kernel
theorem dX8_best_63 : decode cX8_best 63 = .ok (.iload 4, 2) := by decide +kernel
theorem dX8_best_65 : decode cX8_best 65 = .ok (.istore_n 1, 1) := by decide +kernel
theorem dX8_best_66 : decode cX8_best 66 = .ok (.iload 5, 2) := by decide +kernel
theorem dX8_best_68 : decode cX8_best 68 = .ok (.istore_n 2, 1) := by decide +kernel
theorem dX8_best_69 : decode cX8_best 69 = .ok (.iinc 3 1, 3) := by decide +kernel
theorem dX8_best_72 : decode cX8_best 72 = .ok (.goto (-66), 3) := by decide +kernel
theorem dX8_best_75 : decode cX8_best 75 = .ok (.iload_n 1, 1) := by decide +kernel
theorem dX8_best_76 : decode cX8_best 76 = .ok (.ireturn, 1) := by decide +kernel
def fn_X8_best_69 (N : Nat) (K6 : Mem → Nat → Int32 → Int32 → Int32 → Option (Int32 × Mem)) (M : Mem) (a0 : Nat) (x1 : Int32) (x2 : Int32) (x3 : Int32) : Option (Int32 × Mem) :=
  K6 M a0 x1 x2 ((x3 + 1))
set_option maxRecDepth 100000 in
set_option maxHeartbeats 4000000 in
theorem bk_X8_best_69 {Γ : Gm} {ω : Wd} {k N : Nat} {r : Int32} {M' : Mem} (C : Cx Γ cX8_best 6 RX8 ω 2 0 0) (hr : Γ.meth.sig.returnType = (some .int)) {K6 : Mem → Nat → Int32 → Int32 → Int32 → Option (Int32 × Mem)} (hK6 : ∀ (M : Mem) (a0 : Nat) (x1 : Int32) (x2 : Int32) (x3 : Int32), K6 M a0 x1 x2 x3 = some (r, M') → JJ Γ (QF Γ ω k 0 0 (some (.int r)) M') 6 ω k M 0 0 6 [(0, .ref a0), (1, .int x1), (2, .int x2), (3, .int x3)] []) (M : Mem) (a0 : Nat) (x1 : Int32) (x2 : Int32) (x3 : Int32) (h : fn_X8_best_69 N K6 M a0 x1 x2 x3 = some (r, M')) : JJ Γ (QF Γ ω k 0 0 (some (.int r)) M') 6 ω k M 0 0 69 [(0, .ref a0), (1, .int x1), (2, .int x2), (3, .int x3)] [] := by
  unfold fn_X8_best_69 at h
  refine jv_iinc (v := 1) (lv' := [(3, .int (x3 + 1)), (0, .ref a0), (1, .int x1), (2, .int x2)]) C dX8_best_69 3 rfl (by decide) (by decide) rfl ?_
  refine jv_goto (tgt := 6) C dX8_best_72 (by decide) ?_
  refine jv_sub [1, 2, 3, 0] rfl ?_
  exact hK6 _ _ _ _ _ h
def fn_X8_best_63 (N : Nat) (K6 : Mem → Nat → Int32 → Int32 → Int32 → Option (Int32 × Mem)) (M : Mem) (a0 : Nat) (x3 : Int32) (x4 : Int32) (x5 : Int32) : Option (Int32 × Mem) :=
  fn_X8_best_69 N K6 M a0 x4 x5 x3
set_option maxRecDepth 100000 in
set_option maxHeartbeats 4000000 in
theorem bk_X8_best_63 {Γ : Gm} {ω : Wd} {k N : Nat} {r : Int32} {M' : Mem} (C : Cx Γ cX8_best 6 RX8 ω 2 0 0) (hr : Γ.meth.sig.returnType = (some .int)) {K6 : Mem → Nat → Int32 → Int32 → Int32 → Option (Int32 × Mem)} (hK6 : ∀ (M : Mem) (a0 : Nat) (x1 : Int32) (x2 : Int32) (x3 : Int32), K6 M a0 x1 x2 x3 = some (r, M') → JJ Γ (QF Γ ω k 0 0 (some (.int r)) M') 6 ω k M 0 0 6 [(0, .ref a0), (1, .int x1), (2, .int x2), (3, .int x3)] []) (M : Mem) (a0 : Nat) (x3 : Int32) (x4 : Int32) (x5 : Int32) (h : fn_X8_best_63 N K6 M a0 x3 x4 x5 = some (r, M')) : JJ Γ (QF Γ ω k 0 0 (some (.int r)) M') 6 ω k M 0 0 63 [(0, .ref a0), (3, .int x3), (4, .int x4), (5, .int x5)] [] := by
  unfold fn_X8_best_63 at h
  refine jv_iload C dX8_best_63 2 rfl ?_
  refine jv_istore_n (lv' := [(1, .int x4), (0, .ref a0), (3, .int x3), (4, .int x4), (5, .int x5)]) C dX8_best_65 rfl (by decide) rfl ?_
  refine jv_iload C dX8_best_66 4 rfl ?_
  refine jv_istore_n (lv' := [(2, .int x5), (1, .int x4), (0, .ref a0), (3, .int x3), (4, .int x4), (5, .int x5)]) C dX8_best_68 rfl (by decide) rfl ?_
  refine jv_sub [2, 1, 0, 3] rfl ?_
  exact bk_X8_best_69 C hr hK6 _ _ _ _ _ h
def fn_X8_best_6 (N : Nat) : Nat → Mem → Nat → Int32 → Int32 → Int32 → Option (Int32 × Mem)
  | 0, _, _, _, _, _ => none
  | n + 1, M, a0, x1, x2, x3 =>
    (mm_gR M a0 8 0).bind fun b1 =>
    (mm_gI M b1 6 1).bind fun v2 =>
    if v2 ≤ x3 then
      some (x1, M)
    else
      (mm_gR M a0 8 0).bind fun b3 =>
      (mm_ck M b3 6).bind fun _ => mm_b2 (fn_X6_at N M b3 x3) fun v5 M4 =>
      (mm_ck M4 a0 8).bind fun _ => mm_b2 (fn_X8_riseAt N M4 a0 ((v5 + 1))) fun v7 M6 =>
      if 2000 < (v5 + 1) then
        fn_X8_best_69 N (fn_X8_best_6 N n) M6 a0 x1 x2 x3
      else
        if v7 < x2 then
          fn_X8_best_63 N (fn_X8_best_6 N n) M6 a0 x3 ((v5 + 1)) v7
        else
          if v7 = x2 then
            if x1 ≤ (v5 + 1) then
              fn_X8_best_69 N (fn_X8_best_6 N n) M6 a0 x1 x2 x3
            else
              fn_X8_best_63 N (fn_X8_best_6 N n) M6 a0 x3 ((v5 + 1)) v7
          else
            fn_X8_best_69 N (fn_X8_best_6 N n) M6 a0 x1 x2 x3
set_option maxRecDepth 100000 in
set_option maxHeartbeats 4000000 in
theorem bk_X8_best_6 {Γ : Gm} {ω : Wd} {k N : Nat} {r : Int32} {M' : Mem} (C : Cx Γ cX8_best 6 RX8 ω 2 0 0) (hr : Γ.meth.sig.returnType = (some .int)) : ∀ (n : Nat) (M : Mem) (a0 : Nat) (x1 : Int32) (x2 : Int32) (x3 : Int32), fn_X8_best_6 N n M a0 x1 x2 x3 = some (r, M') → JJ Γ (QF Γ ω k 0 0 (some (.int r)) M') 6 ω k M 0 0 6 [(0, .ref a0), (1, .int x1), (2, .int x2), (3, .int x3)] [] := by
  intro n
  induction n with
  | zero => intro M a0 x1 x2 x3 h; exact jv_no h
  | succ n ih =>
    intro M a0 x1 x2 x3 h
    rw [fn_X8_best_6.eq_2] at h
    refine jv_iload_n C dX8_best_6 rfl 3 rfl ?_
    refine jv_aload_n C dX8_best_7 rfl 0 rfl ?_
    refine jv_getR C fa_X8_14 dX8_best_8 h (fun b1 h => ?_)
    refine jv_getI C fa_X8_29 dX8_best_11 h (fun v2 h => ?_)
    refine jv_icmp_ge (tgt := 75) C dX8_best_14 (by decide) h (fun h => ?_) (fun h => ?_)
    · refine jv_iload_n C dX8_best_75 rfl 1 rfl ?_
      exact jv_iret C hr dX8_best_76 h
    · refine jv_aload_n C dX8_best_17 rfl 0 rfl ?_
      refine jv_getR C fa_X8_14 dX8_best_18 h (fun b3 h => ?_)
      refine jv_iload_n C dX8_best_21 rfl 3 rfl ?_
      refine jv_vI0 (As := [.int x3]) C lk_X8_33 rfl dX8_best_22 rfl rfl (by decide) (by decide) (by decide) (Nat.le_of_ble_eq_true rfl) h (fun _ _ h => ct_X6_at h) (fun v5 M4 h => ?_)
      refine jv_iconst (v := 1) C dX8_best_25 (by decide) ?_
      refine jv_iadd C dX8_best_26 ?_
      refine jv_istore (lv' := [(4, .int (v5 + 1)), (0, .ref a0), (1, .int x1), (2, .int x2), (3, .int x3)]) C dX8_best_27 (by decide) rfl ?_
      refine jv_aload_n C dX8_best_29 rfl 1 rfl ?_
      refine jv_iload C dX8_best_30 0 rfl ?_
      refine jv_vI0 (As := [.int (v5 + 1)]) C lk_X8_37 rfl dX8_best_32 rfl rfl (by decide) (by decide) (by decide) (Nat.le_of_ble_eq_true rfl) h (fun _ _ h => ct_X8_riseAt h) (fun v7 M6 h => ?_)
      refine jv_istore (lv' := [(5, .int v7), (4, .int (v5 + 1)), (0, .ref a0), (1, .int x1), (2, .int x2), (3, .int x3)]) C dX8_best_35 (by decide) rfl ?_
      refine jv_iload C dX8_best_37 1 rfl ?_
      refine jv_sipush (v := 2000) C dX8_best_39 (by decide) ?_
      refine jv_icmp_gt (tgt := 69) C dX8_best_42 (by decide) h (fun h => ?_) (fun h => ?_)
      · refine jv_sub [2, 3, 4, 5] rfl ?_
        exact bk_X8_best_69 C hr ih _ _ _ _ _ h
      · refine jv_iload C dX8_best_45 0 rfl ?_
        refine jv_iload_n C dX8_best_47 rfl 4 rfl ?_
        refine jv_icmp_lt (tgt := 63) C dX8_best_48 (by decide) h (fun h => ?_) (fun h => ?_)
        · refine jv_sub [2, 5, 1, 0] rfl ?_
          exact bk_X8_best_63 C hr ih _ _ _ _ _ h
        · refine jv_iload C dX8_best_51 0 rfl ?_
          refine jv_iload_n C dX8_best_53 rfl 4 rfl ?_
          refine jv_icmp_ne (tgt := 69) C dX8_best_54 (by decide) h (fun h => ?_) (fun h => ?_)
          · refine jv_sub [2, 3, 4, 5] rfl ?_
            exact bk_X8_best_69 C hr ih _ _ _ _ _ h
          · refine jv_iload C dX8_best_57 1 rfl ?_
            refine jv_iload_n C dX8_best_59 rfl 3 rfl ?_
            refine jv_icmp_ge (tgt := 69) C dX8_best_60 (by decide) h (fun h => ?_) (fun h => ?_)
            · refine jv_sub [2, 3, 4, 5] rfl ?_
              exact bk_X8_best_69 C hr ih _ _ _ _ _ h
            · refine jv_sub [2, 5, 1, 0] rfl ?_
              exact bk_X8_best_63 C hr ih _ _ _ _ _ h
def fn_X8_best (N : Nat) (M : Mem) (a0 : Nat) : Option (Int32 × Mem) :=
  fn_X8_best_6 N N M a0 0 0 0
set_option maxRecDepth 100000 in
set_option maxHeartbeats 4000000 in
theorem ct_X8_best {l : Launch} {ω : Wd} {k N : Nat} {M : Mem} {a0 : Nat} {r : Int32} {M' : Mem} (h : fn_X8_best N M a0 = some (r, M')) : CM l ω k yX8_best cX8_best 6 (some .int) 2 0 0 [.ref a0] M (some (.int r)) M' := by
  refine CM.of (by decide) (Nat.le_of_ble_eq_true rfl) fun Γ hl C hr hi => ?_
  subst hl
  unfold fn_X8_best at h
  refine jv_iconst (v := 0) C dX8_best_0 (by decide) ?_
  refine jv_istore_n (lv' := [(1, .int 0), (0, .ref a0)]) C dX8_best_1 rfl (by decide) rfl ?_
  refine jv_iconst (v := 0) C dX8_best_2 (by decide) ?_
  refine jv_istore_n (lv' := [(2, .int 0), (1, .int 0), (0, .ref a0)]) C dX8_best_3 rfl (by decide) rfl ?_
  refine jv_iconst (v := 0) C dX8_best_4 (by decide) ?_
  refine jv_istore_n (lv' := [(3, .int 0), (2, .int 0), (1, .int 0), (0, .ref a0)]) C dX8_best_5 rfl (by decide) rfl ?_
  refine jv_sub [3, 2, 1, 0] rfl ?_
  exact bk_X8_best_6 C hr _ _ _ _ _ _ h
theorem dX8_init_0 : decode cX8_init 0 = .ok (.aload_n 0, 1) := by decide +kernel
theorem dX8_init_1 : decode cX8_init 1 = .ok (.invokespecial 3, 3) := by decide +kernel
theorem dX8_init_4 : decode cX8_init 4 = .ok (.aload_n 0, 1) := by decide +kernel
theorem dX8_init_5 : decode cX8_init 5 = .ok (.new 9, 3) := by decide +kernel
theorem dX8_init_8 : decode cX8_init 8 = .ok (.dup, 1) := by decide +kernel
theorem dX8_init_9 : decode cX8_init 9 = .ok (.bipush 40, 2) := by decide +kernel
theorem dX8_init_11 : decode cX8_init 11 = .ok (.invokespecial 11, 3) := by decide +kernel
theorem dX8_init_14 : decode cX8_init 14 = .ok (.putfield 14, 3) := by decide +kernel
theorem dX8_init_17 : decode cX8_init 17 = .ok (.aload_n 0, 1) := by decide +kernel
theorem dX8_init_18 : decode cX8_init 18 = .ok (.new 9, 3) := by decide +kernel
theorem dX8_init_21 : decode cX8_init 21 = .ok (.dup, 1) := by decide +kernel
theorem dX8_init_22 : decode cX8_init 22 = .ok (.bipush 40, 2) := by decide +kernel
theorem dX8_init_24 : decode cX8_init 24 = .ok (.invokespecial 11, 3) := by decide +kernel
theorem dX8_init_27 : decode cX8_init 27 = .ok (.putfield 20, 3) := by decide +kernel
theorem dX8_init_30 : decode cX8_init 30 = .ok (.return_, 1) := by decide +kernel
def fn_X8_init (N : Nat) (M : Mem) (a0 : Nat) : Option (Unit × Mem) :=
  mm_nm M.length (M ++ [.inr (6, [.null, .int 0])]) fun b1 M2 =>
  mm_b2 (fn_X6_init N M2 b1 40) fun _ M3 =>
  (mm_pV M3 a0 8 0 (.ref b1)).bind fun M4 =>
  mm_nm M4.length (M4 ++ [.inr (6, [.null, .int 0])]) fun b5 M6 =>
  mm_b2 (fn_X6_init N M6 b5 40) fun _ M7 =>
  (mm_pV M7 a0 8 1 (.ref b5)).bind fun M8 =>
  some ((), M8)
set_option maxRecDepth 100000 in
set_option maxHeartbeats 4000000 in
theorem ct_X8_init {l : Launch} {ω : Wd} {N : Nat} {M : Mem} {a0 : Nat} {r : Unit} {M' : Mem} (h : fn_X8_init N M a0 = some (r, M')) : CM l ω 0 yX8_init cX8_init 1 none 2 4 124 [.ref a0] M none M' := by
  refine CM.of (by decide) (Nat.le_of_ble_eq_true rfl) fun Γ hl C hr hi => ?_
  subst hl
  unfold fn_X8_init at h
  refine jv_aload_n C dX8_init_0 rfl 0 rfl ?_
  refine jv_objInit C gw_744 gw_129 gw_130 (Nat.le_of_ble_eq_true rfl) dX8_init_1 ?_
  refine jv_aload_n C dX8_init_4 rfl 0 rfl ?_
  refine jv_new (ci := 6) (fs := [.null, .int 0]) (tf := tyX6) C rfl uw_X6 tyX6_ok gw_745 gw_180 gw_97 (fun j hj => nd_X6 ω j hj) (by decide) (by decide) dX8_init_5 ?_
  refine jv_name h (fun b1 M2 h => ?_)
  refine jv_dup C dX8_init_8 rfl ?_
  refine jv_bipush (v := 40) C dX8_init_9 (by decide) ?_
  refine jv_iV (As := [.int 40]) C lk_X8_11 dX8_init_11 rfl rfl (by decide) (by decide) (by decide) (Nat.le_of_ble_eq_true rfl) h (fun _ _ h => ct_X6_init h) (fun _ M3 h => ?_)
  refine jv_putFR C fp_X8_14 hi dX8_init_14 (fun _ => ⟨rfl, rfl⟩) h (fun M4 h => ?_)
  refine jv_aload_n C dX8_init_17 rfl 0 rfl ?_
  refine jv_new (ci := 6) (fs := [.null, .int 0]) (tf := tyX6) C rfl uw_X6 tyX6_ok gw_745 gw_180 gw_97 (fun j hj => nd_X6 ω j hj) (by decide) (by decide) dX8_init_18 ?_
  refine jv_name h (fun b5 M6 h => ?_)
  refine jv_dup C dX8_init_21 rfl ?_
  refine jv_bipush (v := 40) C dX8_init_22 (by decide) ?_
  refine jv_iV (As := [.int 40]) C lk_X8_11 dX8_init_24 rfl rfl (by decide) (by decide) (by decide) (Nat.le_of_ble_eq_true rfl) h (fun _ _ h => ct_X6_init h) (fun _ M7 h => ?_)
  refine jv_putFR C fp_X8_20 hi dX8_init_27 (fun _ => ⟨rfl, rfl⟩) h (fun M8 h => ?_)
  exact jv_vret C hr dX8_init_30 h
