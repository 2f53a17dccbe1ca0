theorem dX10_worstBag_0 : decode cX10_worstBag 0 = .ok (.bipush (-2), 2) := by decide +kernel
theorem dX10_worstBag_2 : decode cX10_worstBag 2 = .ok (.istore_n 1, 1) := by decide +kernel
theorem dX10_worstBag_3 : decode cX10_worstBag 3 = .ok (.iconst 0, 1) := by decide +kernel
theorem dX10_worstBag_4 : decode cX10_worstBag 4 = .ok (.istore_n 2, 1) := by decide +kernel
theorem dX10_worstBag_5 : decode cX10_worstBag 5 = .ok (.iconst 0, 1) := by decide +kernel
theorem dX10_worstBag_6 : decode cX10_worstBag 6 = .ok (.istore_n 3, 1) := by decide +kernel
theorem dX10_worstBag_7 : decode cX10_worstBag 7 = .ok (.iload_n 3, 1) := by decide +kernel
theorem dX10_worstBag_8 : decode cX10_worstBag 8 = .ok (.aload_n 0, 1) := by decide +kernel
theorem dX10_worstBag_9 : decode cX10_worstBag 9 = .ok (.getfield 29, 3) := by decide +kernel
theorem dX10_worstBag_12 : decode cX10_worstBag 12 = .ok (.bipush 8, 2) := by decide +kernel
theorem dX10_worstBag_14 : decode cX10_worstBag 14 = .ok (.iaload, 1) := by decide +kernel
theorem dX10_worstBag_15 : decode cX10_worstBag 15 = .ok (.if_icmp .ge 47, 3) := by decide +kernel
theorem dX10_worstBag_18 : decode cX10_worstBag 18 = .ok (.aload_n 0, 1) := by decide +kernel
theorem dX10_worstBag_19 : decode cX10_worstBag 19 = .ok (.iload_n 3, 1) := by decide +kernel
theorem dX10_worstBag_20 : decode cX10_worstBag 20 = .ok (.invokevirtual 240, 3) := by decide +kernel
theorem dX10_worstBag_23 : decode cX10_worstBag 23 = .ok (.ifCond .ge 12, 3) := by decide +kernel
theorem dX10_worstBag_26 : decode cX10_worstBag 26 = .ok (.aload_n 0, 1) := by decide +kernel
theorem dX10_worstBag_27 : decode cX10_worstBag 27 = .ok (.iload_n 3, 1) := by decide +kernel
theorem dX10_worstBag_28 : decode cX10_worstBag 28 = .ok (.invokevirtual 240, 3) := by decide +kernel
theorem dX10_worstBag_31 : decode cX10_worstBag 31 = .ok (.ineg, 1) := by decide +kernel
theorem dX10_worstBag_32 : decode cX10_worstBag 32 = .ok (.goto 8, 3) := by decide +kernel
theorem dX10_worstBag_35 : decode cX10_worstBag 35 = .ok (.aload_n 0, 1) := by decide +kernel
theorem dX10_worstBag_36 : decode cX10_worstBag 36 = .ok (.iload_n 3, 1) := by decide +kernel
theorem dX10_worstBag_37 : decode cX10_worstBag 37 = .ok (.invokevirtual 240, 3) := by decide +kernel
theorem dX10_worstBag_40 : decode cX10_worstBag 40 = .ok (.istore 4, 2) := by decide +kernel
theorem dX10_worstBag_42 : decode cX10_worstBag 42 = .ok (.iload 4, 2) := by decide +kernel
theorem dX10_worstBag_44 : decode cX10_worstBag 44 = .ok (.iload_n 2, 1) := by decide +kernel
theorem dX10_worstBag_45 : decode cX10_worstBag 45 = .ok (.if_icmp .gt 6, 3) := by decide +kernel
theorem dX10_worstBag_48 : decode cX10_worstBag 48 = .ok (.goto 8, 3) := by decide +kernel
theorem dX10_worstBag_51 : decode cX10_worstBag 51 = .ok (.iload_n 3, 1) := by decide +kernel
theorem dX10_worstBag_52 : decode cX10_worstBag 52 = .ok (.istore_n 1, 1) := by decide +kernel
theorem dX10_worstBag_53 : decode cX10_worstBag 53 = .ok (.iload 4, 2) := by decide +kernel
theorem dX10_worstBag_55 : decode cX10_worstBag 55 = .ok (.istore_n 2, 1) := by decide +kernel
theorem dX10_worstBag_56 : decode cX10_worstBag 56 = .ok (.iinc 3 1, 3) := by decide +kernel
theorem dX10_worstBag_59 : decode cX10_worstBag 59 = .ok (.goto (-52), 3) := by decide +kernel
theorem dX10_worstBag_62 : decode cX10_worstBag 62 = .ok (.aload_n 0, 1) := by decide +kernel
theorem dX10_worstBag_63 : decode cX10_worstBag 63 = .ok (.iload_n 1, 1) := by decide +kernel
theorem dX10_worstBag_64 : decode cX10_worstBag 64 = .ok (.invokevirtual 167, 3) := by decide +kernel
theorem dX10_worstBag_67 : decode cX10_worstBag 67 = .ok (.ireturn, 1) := by decide +kernel
def fn_X10_worstBag_56 (N : Nat) (K7 : Mem → Nat → Int32 → Int32 → Int32 → Option (Int32 × Mem)) (M : Mem) (a0 : Nat) (x1 : Int32) (x2 : Int32) (x3 : Int32) : Option (Int32 × Mem) :=
  K7 M a0 x1 x2 ((x3 + 1))
set_option maxRecDepth 100000 in
set_option maxHeartbeats 4000000 in
theorem bk_X10_worstBag_56 {Γ : Gm} {ω : Wd} {k N : Nat} {r : Int32} {M' : Mem} (C : Cx Γ cX10_worstBag 5 RX10 ω 1 0 0) (hr : Γ.meth.sig.returnType = (some .int)) {K7 : Mem → Nat → Int32 → Int32 → Int32 → Option (Int32 × Mem)} (hK7 : ∀ (M : Mem) (a0 : Nat) (x1 : Int32) (x2 : Int32) (x3 : Int32), K7 M a0 x1 x2 x3 = some (r, M') → JJ Γ (QF Γ ω k 0 0 (some (.int r)) M') 5 ω k M 0 0 7 [(0, .ref a0), (1, .int x1), (2, .int x2), (3, .int x3)] []) (M : Mem) (a0 : Nat) (x1 : Int32) (x2 : Int32) (x3 : Int32) (h : fn_X10_worstBag_56 N K7 M a0 x1 x2 x3 = some (r, M')) : JJ Γ (QF Γ ω k 0 0 (some (.int r)) M') 5 ω k M 0 0 56 [(0, .ref a0), (1, .int x1), (2, .int x2), (3, .int x3)] [] := by
  unfold fn_X10_worstBag_56 at h
  refine jv_iinc (v := 1) (lv' := [(3, .int (x3 + 1)), (0, .ref a0), (1, .int x1), (2, .int x2)]) C dX10_worstBag_56 3 rfl (by decide) (by decide) rfl ?_
  refine jv_goto (tgt := 7) C dX10_worstBag_59 (by decide) ?_
  refine jv_sub [1, 2, 3, 0] rfl ?_
  exact hK7 _ _ _ _ _ h
def fn_X10_worstBag_40 (N : Nat) (K7 : Mem → Nat → Int32 → Int32 → Int32 → Option (Int32 × Mem)) (M : Mem) (a0 : Nat) (x1 : Int32) (x2 : Int32) (x3 : Int32) (s0 : Int32) : Option (Int32 × Mem) :=
  if x2 < s0 then
    fn_X10_worstBag_56 N K7 M a0 x3 s0 x3
  else
    fn_X10_worstBag_56 N K7 M a0 x1 x2 x3
set_option maxRecDepth 100000 in
set_option maxHeartbeats 4000000 in
theorem bk_X10_worstBag_40 {Γ : Gm} {ω : Wd} {k N : Nat} {r : Int32} {M' : Mem} (C : Cx Γ cX10_worstBag 5 RX10 ω 1 0 0) (hr : Γ.meth.sig.returnType = (some .int)) {K7 : Mem → Nat → Int32 → Int32 → Int32 → Option (Int32 × Mem)} (hK7 : ∀ (M : Mem) (a0 : Nat) (x1 : Int32) (x2 : Int32) (x3 : Int32), K7 M a0 x1 x2 x3 = some (r, M') → JJ Γ (QF Γ ω k 0 0 (some (.int r)) M') 5 ω k M 0 0 7 [(0, .ref a0), (1, .int x1), (2, .int x2), (3, .int x3)] []) (M : Mem) (a0 : Nat) (x1 : Int32) (x2 : Int32) (x3 : Int32) (s0 : Int32) (h : fn_X10_worstBag_40 N K7 M a0 x1 x2 x3 s0 = some (r, M')) : JJ Γ (QF Γ ω k 0 0 (some (.int r)) M') 5 ω k M 0 0 40 [(0, .ref a0), (1, .int x1), (2, .int x2), (3, .int x3)] [.int s0] := by
  unfold fn_X10_worstBag_40 at h
  refine jv_istore (lv' := [(4, .int s0), (0, .ref a0), (1, .int x1), (2, .int x2), (3, .int x3)]) C dX10_worstBag_40 (by decide) rfl ?_
  refine jv_iload C dX10_worstBag_42 0 rfl ?_
  refine jv_iload_n C dX10_worstBag_44 rfl 3 rfl ?_
  refine jv_icmp_gt (tgt := 51) C dX10_worstBag_45 (by decide) h (fun h => ?_) (fun h => ?_)
  · refine jv_iload_n C dX10_worstBag_51 rfl 4 rfl ?_
    refine jv_istore_n (lv' := [(1, .int x3), (4, .int s0), (0, .ref a0), (2, .int x2), (3, .int x3)]) C dX10_worstBag_52 rfl (by decide) rfl ?_
    refine jv_iload C dX10_worstBag_53 1 rfl ?_
    refine jv_istore_n (lv' := [(2, .int s0), (1, .int x3), (4, .int s0), (0, .ref a0), (3, .int x3)]) C dX10_worstBag_55 rfl (by decide) rfl ?_
    refine jv_sub [3, 1, 0, 4] rfl ?_
    exact bk_X10_worstBag_56 C hr hK7 _ _ _ _ _ h
  · refine jv_goto (tgt := 56) C dX10_worstBag_48 (by decide) ?_
    refine jv_sub [1, 2, 3, 4] rfl ?_
    exact bk_X10_worstBag_56 C hr hK7 _ _ _ _ _ h
def fn_X10_worstBag_7 (N : Nat) : Nat → Mem → Nat → Int32 → Int32 → Int32 → Option (Int32 × Mem)
  | 0, _, _, _, _, _ => none
  | n + 1, M, a0, x1, x2, x3 =>
    (mm_gR M a0 10 16).bind fun b1 =>
    (mm_aI M b1 0 8).bind fun v2 =>
    if v2 ≤ x3 then
      (mm_ck M a0 10).bind fun _ => mm_b2 (fn_X10_told N M a0 x1) fun v4 M3 =>
      some (v4, M3)
    else
      (mm_ck M a0 10).bind fun _ => mm_b2 (fn_X10_partOf N M a0 x3) fun v6 M5 =>
      if 0 ≤ v6 then
        (mm_ck M5 a0 10).bind fun _ => mm_b2 (fn_X10_partOf N M5 a0 x3) fun v8 M7 =>
        fn_X10_worstBag_40 N (fn_X10_worstBag_7 N n) M7 a0 x1 x2 x3 v8
      else
        (mm_ck M5 a0 10).bind fun _ => mm_b2 (fn_X10_partOf N M5 a0 x3) fun v10 M9 =>
        fn_X10_worstBag_40 N (fn_X10_worstBag_7 N n) M9 a0 x1 x2 x3 ((0 - v10))
set_option maxRecDepth 100000 in
set_option maxHeartbeats 4000000 in
theorem bk_X10_worstBag_7 {Γ : Gm} {ω : Wd} {k N : Nat} {r : Int32} {M' : Mem} (C : Cx Γ cX10_worstBag 5 RX10 ω 1 0 0) (hr : Γ.meth.sig.returnType = (some .int)) : ∀ (n : Nat) (M : Mem) (a0 : Nat) (x1 : Int32) (x2 : Int32) (x3 : Int32), fn_X10_worstBag_7 N n M a0 x1 x2 x3 = some (r, M') → JJ Γ (QF Γ ω k 0 0 (some (.int r)) M') 5 ω k M 0 0 7 [(0, .ref a0), (1, .int x1), (2, .int x2), (3, .int x3)] [] := by
  intro n
  induction n with
  | zero => intro M a0 x1 x2 x3 h; exact jv_no h
  | succ n ih =>
    intro M a0 x1 x2 x3 h
    rw [fn_X10_worstBag_7.eq_2] at h
    refine jv_iload_n C dX10_worstBag_7 rfl 3 rfl ?_
    refine jv_aload_n C dX10_worstBag_8 rfl 0 rfl ?_
    refine jv_getR C fa_X10_29 dX10_worstBag_9 h (fun b1 h => ?_)
    refine jv_bipush (v := 8) C dX10_worstBag_12 (by decide) ?_
    refine jv_iald C dX10_worstBag_14 h (fun v2 h => ?_)
    refine jv_icmp_ge (tgt := 62) C dX10_worstBag_15 (by decide) h (fun h => ?_) (fun h => ?_)
    · refine jv_aload_n C dX10_worstBag_62 rfl 0 rfl ?_
      refine jv_iload_n C dX10_worstBag_63 rfl 1 rfl ?_
      refine jv_vI0 (As := [.int x1]) C lk_X10_167 rfl dX10_worstBag_64 rfl rfl (by decide) (by decide) (by decide) (Nat.le_of_ble_eq_true rfl) h (fun _ _ h => ct_X10_told h) (fun v4 M3 h => ?_)
      exact jv_iret C hr dX10_worstBag_67 h
    · refine jv_aload_n C dX10_worstBag_18 rfl 0 rfl ?_
      refine jv_iload_n C dX10_worstBag_19 rfl 3 rfl ?_
      refine jv_vI0 (As := [.int x3]) C lk_X10_240 rfl dX10_worstBag_20 rfl rfl (by decide) (by decide) (by decide) (Nat.le_of_ble_eq_true rfl) h (fun _ _ h => ct_X10_partOf h) (fun v6 M5 h => ?_)
      refine jv_if_ge (tgt := 35) C dX10_worstBag_23 (by decide) h (fun h => ?_) (fun h => ?_)
      · refine jv_aload_n C dX10_worstBag_35 rfl 0 rfl ?_
        refine jv_iload_n C dX10_worstBag_36 rfl 3 rfl ?_
        refine jv_vI0 (As := [.int x3]) C lk_X10_240 rfl dX10_worstBag_37 rfl rfl (by decide) (by decide) (by decide) (Nat.le_of_ble_eq_true rfl) h (fun _ _ h => ct_X10_partOf h) (fun v8 M7 h => ?_)
        exact bk_X10_worstBag_40 C hr ih _ _ _ _ _ _ h
      · refine jv_aload_n C dX10_worstBag_26 rfl 0 rfl ?_
        refine jv_iload_n C dX10_worstBag_27 rfl 3 rfl ?_
        refine jv_vI0 (As := [.int x3]) C lk_X10_240 rfl dX10_worstBag_28 rfl rfl (by decide) (by decide) (by decide) (Nat.le_of_ble_eq_true rfl) h (fun _ _ h => ct_X10_partOf h) (fun v10 M9 h => ?_)
        refine jv_ineg C dX10_worstBag_31 ?_
        refine jv_goto (tgt := 40) C dX10_worstBag_32 (by decide) ?_
        exact bk_X10_worstBag_40 C hr ih _ _ _ _ _ _ h
def fn_X10_worstBag (N : Nat) (M : Mem) (a0 : Nat) : Option (Int32 × Mem) :=
  fn_X10_worstBag_7 N N M a0 ((-2)) 0 0
set_option maxRecDepth 100000 in
set_option maxHeartbeats 4000000 in
theorem ct_X10_worstBag {l : Launch} {ω : Wd} {k N : Nat} {M : Mem} {a0 : Nat} {r : Int32} {M' : Mem} (h : fn_X10_worstBag N M a0 = some (r, M')) : CM l ω k yX10_worstBag cX10_worstBag 5 (some .int) 1 0 0 [.ref a0] M (some (.int r)) M' := by
  refine CM.of (by decide) (Nat.le_of_ble_eq_true rfl) fun Γ hl C hr hi => ?_
  subst hl
  unfold fn_X10_worstBag at h
  refine jv_bipush (v := (-2)) C dX10_worstBag_0 (by decide) ?_
  refine jv_istore_n (lv' := [(1, .int (-2)), (0, .ref a0)]) C dX10_worstBag_2 rfl (by decide) rfl ?_
  refine jv_iconst (v := 0) C dX10_worstBag_3 (by decide) ?_
  refine jv_istore_n (lv' := [(2, .int 0), (1, .int (-2)), (0, .ref a0)]) C dX10_worstBag_4 rfl (by decide) rfl ?_
  refine jv_iconst (v := 0) C dX10_worstBag_5 (by decide) ?_
  refine jv_istore_n (lv' := [(3, .int 0), (2, .int 0), (1, .int (-2)), (0, .ref a0)]) C dX10_worstBag_6 rfl (by decide) rfl ?_
  refine jv_sub [3, 2, 1, 0] rfl ?_
  exact bk_X10_worstBag_7 C hr _ _ _ _ _ _ h
