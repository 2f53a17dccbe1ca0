theorem dX9_dispense_0 : decode cX9_dispense 0 = .ok (.iload_n 1, 1) := by decide +kernel
theorem dX9_dispense_1 : decode cX9_dispense 1 = .ok (.invokestatic 231, 3) := by decide +kernel
theorem dX9_dispense_4 : decode cX9_dispense 4 = .ok (.ifCond .ne 5, 3) := by decide +kernel
theorem dX9_dispense_7 : decode cX9_dispense 7 = .ok (.iconst (-1), 1) := by decide +kernel
theorem dX9_dispense_8 : decode cX9_dispense 8 = .ok (.ireturn, 1) := by decide +kernel
theorem dX9_dispense_9 : decode cX9_dispense 9 = .ok (.aload_n 0, 1) := by decide +kernel
theorem dX9_dispense_10 : decode cX9_dispense 10 = .ok (.iload_n 1, 1) := by decide +kernel
theorem dX9_dispense_11 : decode cX9_dispense 11 = .ok (.invokevirtual 234, 3) := by decide +kernel
theorem dX9_dispense_14 : decode cX9_dispense 14 = .ok (.istore_n 2, 1) := by decide +kernel
theorem dX9_dispense_15 : decode cX9_dispense 15 = .ok (.iload_n 2, 1) := by decide +kernel
theorem dX9_dispense_16 : decode cX9_dispense 16 = .ok (.bipush (-2), 2) := by decide +kernel
theorem dX9_dispense_18 : decode cX9_dispense 18 = .ok (.if_icmp .ne 6, 3) := by decide +kernel
theorem dX9_dispense_21 : decode cX9_dispense 21 = .ok (.bipush (-2), 2) := by decide +kernel
theorem dX9_dispense_23 : decode cX9_dispense 23 = .ok (.ireturn, 1) := by decide +kernel
theorem dX9_dispense_24 : decode cX9_dispense 24 = .ok (.aload_n 0, 1) := by decide +kernel
theorem dX9_dispense_25 : decode cX9_dispense 25 = .ok (.getfield 40, 3) := by decide +kernel
theorem dX9_dispense_28 : decode cX9_dispense 28 = .ok (.aload_n 0, 1) := by decide +kernel
theorem dX9_dispense_29 : decode cX9_dispense 29 = .ok (.getfield 33, 3) := by decide +kernel
theorem dX9_dispense_32 : decode cX9_dispense 32 = .ok (.invokevirtual 279, 3) := by decide +kernel
theorem dX9_dispense_35 : decode cX9_dispense 35 = .ok (.iconst 0, 1) := by decide +kernel
theorem dX9_dispense_36 : decode cX9_dispense 36 = .ok (.istore_n 3, 1) := by decide +kernel
theorem dX9_dispense_37 : decode cX9_dispense 37 = .ok (.iload_n 3, 1) := by decide +kernel
theorem dX9_dispense_38 : decode cX9_dispense 38 = .ok (.aload_n 0, 1) := by decide +kernel
theorem dX9_dispense_39 : decode cX9_dispense 39 = .ok (.getfield 23, 3) := by decide +kernel
theorem dX9_dispense_42 : decode cX9_dispense 42 = .ok (.getfield 120, 3) := by decide +kernel
theorem dX9_dispense_45 : decode cX9_dispense 45 = .ok (.getfield 124, 3) := by decide +kernel
theorem dX9_dispense_48 : decode cX9_dispense 48 = .ok (.if_icmp .ge 79, 3) := by decide +kernel
theorem dX9_dispense_51 : decode cX9_dispense 51 = .ok (.aload_n 0, 1) := by decide +kernel
theorem dX9_dispense_52 : decode cX9_dispense 52 = .ok (.getfield 23, 3) := by decide +kernel
theorem dX9_dispense_55 : decode cX9_dispense 55 = .ok (.getfield 120, 3) := by decide +kernel
theorem dX9_dispense_58 : decode cX9_dispense 58 = .ok (.iload_n 3, 1) := by decide +kernel
theorem dX9_dispense_59 : decode cX9_dispense 59 = .ok (.invokevirtual 132, 3) := by decide +kernel
theorem dX9_dispense_62 : decode cX9_dispense 62 = .ok (.istore 4, 2) := by decide +kernel
theorem dX9_dispense_64 : decode cX9_dispense 64 = .ok (.aload_n 0, 1) := by decide +kernel
theorem dX9_dispense_65 : decode cX9_dispense 65 = .ok (.getfield 33, 3) := by decide +kernel
theorem dX9_dispense_68 : decode cX9_dispense 68 = .ok (.getfield 199, 3) := by decide +kernel
theorem dX9_dispense_71 : decode cX9_dispense 71 = .ok (.iload_n 3, 1) := by decide +kernel
theorem dX9_dispense_72 : decode cX9_dispense 72 = .ok (.invokevirtual 132, 3) := by decide +kernel
theorem dX9_dispense_75 : decode cX9_dispense 75 = .ok (.aload_n 0, 1) := by decide +kernel
theorem dX9_dispense_76 : decode cX9_dispense 76 = .ok (.getfield 62, 3) := by decide +kernel
theorem dX9_dispense_79 : decode cX9_dispense 79 = .ok (.getfield 237, 3) := by decide +kernel
theorem dX9_dispense_82 : decode cX9_dispense 82 = .ok (.iload 4, 2) := by decide +kernel
theorem dX9_dispense_84 : decode cX9_dispense 84 = .ok (.invokevirtual 132, 3) := by decide +kernel
theorem dX9_dispense_87 : decode cX9_dispense 87 = .ok (.invokestatic 339, 3) := by decide +kernel
theorem dX9_dispense_90 : decode cX9_dispense 90 = .ok (.istore 5, 2) := by decide +kernel
theorem dX9_dispense_92 : decode cX9_dispense 92 = .ok (.aload_n 0, 1) := by decide +kernel
theorem dX9_dispense_93 : decode cX9_dispense 93 = .ok (.getfield 62, 3) := by decide +kernel
theorem dX9_dispense_96 : decode cX9_dispense 96 = .ok (.getfield 237, 3) := by decide +kernel
theorem dX9_dispense_99 : decode cX9_dispense 99 = .ok (.iload 4, 2) := by decide +kernel
theorem dX9_dispense_101 : decode cX9_dispense 101 = .ok (.iload 5, 2) := by decide +kernel
theorem dX9_dispense_103 : decode cX9_dispense 103 = .ok (.ineg, 1) := by decide +kernel
theorem dX9_dispense_104 : decode cX9_dispense 104 = .ok (.invokevirtual 321, 3) := by decide +kernel
theorem dX9_dispense_107 : decode cX9_dispense 107 = .ok (.aload_n 0, 1) := by decide +kernel
theorem dX9_dispense_108 : decode cX9_dispense 108 = .ok (.getfield 33, 3) := by decide +kernel
theorem dX9_dispense_111 : decode cX9_dispense 111 = .ok (.getfield 199, 3) := by decide +kernel
theorem dX9_dispense_114 : decode cX9_dispense 114 = .ok (.iload_n 3, 1) := by decide +kernel
theorem dX9_dispense_115 : decode cX9_dispense 115 = .ok (.iload 5, 2) := by decide +kernel
theorem dX9_dispense_117 : decode cX9_dispense 117 = .ok (.ineg, 1) := by decide +kernel
theorem dX9_dispense_118 : decode cX9_dispense 118 = .ok (.invokevirtual 321, 3) := by decide +kernel
theorem dX9_dispense_121 : decode cX9_dispense 121 = .ok (.iinc 3 1, 3) := by decide +kernel
theorem dX9_dispense_124 : decode cX9_dispense 124 = .ok (.goto (-87), 3) := by decide +kernel
theorem dX9_dispense_127 : decode cX9_dispense 127 = .ok (.iload_n 2, 1) := by decide +kernel
theorem dX9_dispense_128 : decode cX9_dispense 128 = .ok (.ireturn, 1) := by decide +kernel
def fn_X9_dispense_37 (N : Nat) : Nat → Mem → Nat → Int32 → Int32 → Option (Int32 × Mem)
  | 0, _, _, _, _ => none
  | n + 1, M, a0, x2, x3 =>
    (mm_gR M a0 9 3).bind fun b1 =>
    (mm_gR M b1 0 2).bind fun b2 =>
    (mm_gI M b2 6 1).bind fun v3 =>
    if v3 ≤ x3 then
      some (x2, M)
    else
      (mm_gR M a0 9 3).bind fun b4 =>
      (mm_gR M b4 0 2).bind fun b5 =>
      (mm_ck M b5 6).bind fun _ => mm_b2 (fn_X6_at N M b5 x3) fun v7 M6 =>
      (mm_gR M6 a0 9 5).bind fun b8 =>
      (mm_gR M6 b8 7 7).bind fun b9 =>
      (mm_ck M6 b9 6).bind fun _ => mm_b2 (fn_X6_at N M6 b9 x3) fun v11 M10 =>
      (mm_gR M10 a0 9 10).bind fun b12 =>
      (mm_gR M10 b12 5 4).bind fun b13 =>
      (mm_ck M10 b13 6).bind fun _ => mm_b2 (fn_X6_at N M10 b13 v7) fun v15 M14 =>
      mm_lt (if v15 < v11 then v15 else v11) fun v16 =>
      (mm_gR M14 a0 9 10).bind fun b17 =>
      (mm_gR M14 b17 5 4).bind fun b18 =>
      (mm_ck M14 b18 6).bind fun _ => mm_b2 (fn_X6_increase N M14 b18 v7 ((0 - v16))) fun _ M19 =>
      (mm_gR M19 a0 9 5).bind fun b20 =>
      (mm_gR M19 b20 7 7).bind fun b21 =>
      (mm_ck M19 b21 6).bind fun _ => mm_b2 (fn_X6_increase N M19 b21 x3 ((0 - v16))) fun _ M22 =>
      fn_X9_dispense_37 N n M22 a0 x2 ((x3 + 1))
set_option maxRecDepth 100000 in
set_option maxHeartbeats 4000000 in
theorem bk_X9_dispense_37 {Γ : Gm} {ω : Wd} {k N : Nat} {r : Int32} {M' : Mem} (C : Cx Γ cX9_dispense 6 RX9 ω 5 0 0) (hr : Γ.meth.sig.returnType = (some .int)) : ∀ (n : Nat) (M : Mem) (a0 : Nat) (x2 : Int32) (x3 : Int32), fn_X9_dispense_37 N n M a0 x2 x3 = some (r, M') → JJ Γ (QF Γ ω k 0 0 (some (.int r)) M') 6 ω k M 0 0 37 [(0, .ref a0), (2, .int x2), (3, .int x3)] [] := by
  intro n
  induction n with
  | zero => intro M a0 x2 x3 h; exact jv_no h
  | succ n ih =>
    intro M a0 x2 x3 h
    rw [fn_X9_dispense_37.eq_2] at h
    refine jv_iload_n C dX9_dispense_37 rfl 2 rfl ?_
    refine jv_aload_n C dX9_dispense_38 rfl 0 rfl ?_
    refine jv_getR C fa_X9_23 dX9_dispense_39 h (fun b1 h => ?_)
    refine jv_getR C fa_X9_120 dX9_dispense_42 h (fun b2 h => ?_)
    refine jv_getI C fa_X9_124 dX9_dispense_45 h (fun v3 h => ?_)
    refine jv_icmp_ge (tgt := 127) C dX9_dispense_48 (by decide) h (fun h => ?_) (fun h => ?_)
    · refine jv_iload_n C dX9_dispense_127 rfl 1 rfl ?_
      exact jv_iret C hr dX9_dispense_128 h
    · refine jv_aload_n C dX9_dispense_51 rfl 0 rfl ?_
      refine jv_getR C fa_X9_23 dX9_dispense_52 h (fun b4 h => ?_)
      refine jv_getR C fa_X9_120 dX9_dispense_55 h (fun b5 h => ?_)
      refine jv_iload_n C dX9_dispense_58 rfl 2 rfl ?_
      refine jv_vI0 (As := [.int x3]) C lk_X9_132 rfl dX9_dispense_59 rfl rfl (by decide) (by decide) (by decide) (Nat.le_of_ble_eq_true rfl) h (fun _ _ h => ct_X6_at h) (fun v7 M6 h => ?_)
      refine jv_istore (lv' := [(4, .int v7), (0, .ref a0), (2, .int x2), (3, .int x3)]) C dX9_dispense_62 (by decide) rfl ?_
      refine jv_aload_n C dX9_dispense_64 rfl 1 rfl ?_
      refine jv_getR C fa_X9_33 dX9_dispense_65 h (fun b8 h => ?_)
      refine jv_getR C fa_X9_199 dX9_dispense_68 h (fun b9 h => ?_)
      refine jv_iload_n C dX9_dispense_71 rfl 3 rfl ?_
      refine jv_vI0 (As := [.int x3]) C lk_X9_132 rfl dX9_dispense_72 rfl rfl (by decide) (by decide) (by decide) (Nat.le_of_ble_eq_true rfl) h (fun _ _ h => ct_X6_at h) (fun v11 M10 h => ?_)
      refine jv_aload_n C dX9_dispense_75 rfl 1 rfl ?_
      refine jv_getR C fa_X9_62 dX9_dispense_76 h (fun b12 h => ?_)
      refine jv_getR C fa_X9_237 dX9_dispense_79 h (fun b13 h => ?_)
      refine jv_iload C dX9_dispense_82 0 rfl ?_
      refine jv_vI0 (As := [.int v7]) C lk_X9_132 rfl dX9_dispense_84 rfl rfl (by decide) (by decide) (by decide) (Nat.le_of_ble_eq_true rfl) h (fun _ _ h => ct_X6_at h) (fun v15 M14 h => ?_)
      refine jv_mmin C gw_1256 gw_280 gw_98 gw_281 (by decide) (by decide) (Nat.le_of_ble_eq_true rfl) dX9_dispense_87 ?_
      refine jv_nameI h (fun v16 h => ?_)
      refine jv_istore (lv' := [(5, .int v16), (4, .int v7), (0, .ref a0), (2, .int x2), (3, .int x3)]) C dX9_dispense_90 (by decide) rfl ?_
      refine jv_aload_n C dX9_dispense_92 rfl 2 rfl ?_
      refine jv_getR C fa_X9_62 dX9_dispense_93 h (fun b17 h => ?_)
      refine jv_getR C fa_X9_237 dX9_dispense_96 h (fun b18 h => ?_)
      refine jv_iload C dX9_dispense_99 1 rfl ?_
      refine jv_iload C dX9_dispense_101 0 rfl ?_
      refine jv_ineg C dX9_dispense_103 ?_
      refine jv_vV0 (As := [.int v7, .int (0 - v16)]) C lk_X9_321 rfl dX9_dispense_104 rfl rfl (by decide) (by decide) (by decide) (Nat.le_of_ble_eq_true rfl) h (fun _ _ h => ct_X6_increase h) (fun _ M19 h => ?_)
      refine jv_aload_n C dX9_dispense_107 rfl 2 rfl ?_
      refine jv_getR C fa_X9_33 dX9_dispense_108 h (fun b20 h => ?_)
      refine jv_getR C fa_X9_199 dX9_dispense_111 h (fun b21 h => ?_)
      refine jv_iload_n C dX9_dispense_114 rfl 4 rfl ?_
      refine jv_iload C dX9_dispense_115 0 rfl ?_
      refine jv_ineg C dX9_dispense_117 ?_
      refine jv_vV0 (As := [.int x3, .int (0 - v16)]) C lk_X9_321 rfl dX9_dispense_118 rfl rfl (by decide) (by decide) (by decide) (Nat.le_of_ble_eq_true rfl) h (fun _ _ h => ct_X6_increase h) (fun _ M22 h => ?_)
      refine jv_iinc (v := 1) (lv' := [(3, .int (x3 + 1)), (5, .int v16), (4, .int v7), (0, .ref a0), (2, .int x2)]) C dX9_dispense_121 4 rfl (by decide) (by decide) rfl ?_
      refine jv_goto (tgt := 37) C dX9_dispense_124 (by decide) ?_
      refine jv_sub [3, 4, 0] rfl ?_
      exact ih _ _ _ _ h
def fn_X9_dispense (N : Nat) (M : Mem) (a0 : Nat) (x1 : Int32) : Option (Int32 × Mem) :=
  mm_b2 (fn_X9_isAmount N M x1) fun v2 M1 =>
  if v2 = 0 then
    some ((-1), M1)
  else
    (mm_ck M1 a0 9).bind fun _ => mm_b2 (fn_X9_planPayout N M1 a0 x1) fun v4 M3 =>
    if v4 = (-2) then
      some ((-2), M3)
    else
      (mm_gR M3 a0 9 6).bind fun b5 =>
      (mm_gR M3 a0 9 5).bind fun b6 =>
      (mm_ck M3 b5 1).bind fun _ => mm_b2 (fn_X1_push N M3 b5 b6) fun _ M7 =>
      fn_X9_dispense_37 N N M7 a0 v4 0
set_option maxRecDepth 100000 in
set_option maxHeartbeats 4000000 in
theorem ct_X9_dispense {l : Launch} {ω : Wd} {k N : Nat} {M : Mem} {a0 : Nat} {x1 : Int32} {r : Int32} {M' : Mem} (h : fn_X9_dispense N M a0 x1 = some (r, M')) : CM l ω k yX9_dispense cX9_dispense 6 (some .int) 5 0 0 [.ref a0, .int x1] M (some (.int r)) M' := by
  refine CM.of (by decide) (Nat.le_of_ble_eq_true rfl) fun Γ hl C hr hi => ?_
  subst hl
  unfold fn_X9_dispense at h
  refine jv_iload_n C dX9_dispense_0 rfl 1 rfl ?_
  refine jv_sI0 (As := [.int x1]) C lk_X9_231 dX9_dispense_1 rfl rfl (by decide) (by decide) (by decide) (Nat.le_of_ble_eq_true rfl) h (fun _ _ h => ct_X9_isAmount h) (fun v2 M1 h => ?_)
  refine jv_if_ne (tgt := 9) C dX9_dispense_4 (by decide) h (fun h => ?_) (fun h => ?_)
  · refine jv_aload_n C dX9_dispense_9 rfl 0 rfl ?_
    refine jv_iload_n C dX9_dispense_10 rfl 1 rfl ?_
    refine jv_vI0 (As := [.int x1]) C lk_X9_234 rfl dX9_dispense_11 rfl rfl (by decide) (by decide) (by decide) (Nat.le_of_ble_eq_true rfl) h (fun _ _ h => ct_X9_planPayout h) (fun v4 M3 h => ?_)
    refine jv_istore_n (lv' := [(2, .int v4), (0, .ref a0), (1, .int x1)]) C dX9_dispense_14 rfl (by decide) rfl ?_
    refine jv_iload_n C dX9_dispense_15 rfl 0 rfl ?_
    refine jv_bipush (v := (-2)) C dX9_dispense_16 (by decide) ?_
    refine jv_icmp_ne (tgt := 24) C dX9_dispense_18 (by decide) h (fun h => ?_) (fun h => ?_)
    · refine jv_aload_n C dX9_dispense_24 rfl 1 rfl ?_
      refine jv_getR C fa_X9_40 dX9_dispense_25 h (fun b5 h => ?_)
      refine jv_aload_n C dX9_dispense_28 rfl 1 rfl ?_
      refine jv_getR C fa_X9_33 dX9_dispense_29 h (fun b6 h => ?_)
      refine jv_vV0 (As := [.ref b6]) C lk_X9_279 rfl dX9_dispense_32 rfl rfl (by decide) (by decide) (by decide) (Nat.le_of_ble_eq_true rfl) h (fun _ _ h => ct_X1_push h) (fun _ M7 h => ?_)
      refine jv_iconst (v := 0) C dX9_dispense_35 (by decide) ?_
      refine jv_istore_n (lv' := [(3, .int 0), (2, .int v4), (0, .ref a0), (1, .int x1)]) C dX9_dispense_36 rfl (by decide) rfl ?_
      refine jv_sub [2, 1, 0] rfl ?_
      exact bk_X9_dispense_37 C hr _ _ _ _ _ h
    · refine jv_bipush (v := (-2)) C dX9_dispense_21 (by decide) ?_
      exact jv_iret C hr dX9_dispense_23 h
  · refine jv_iconst (v := (-1)) C dX9_dispense_7 (by decide) ?_
    exact jv_iret C hr dX9_dispense_8 h
theorem dX9_fakeCount_0 : decode cX9_fakeCount 0 = .ok (.aload_n 0, 1) := by decide +kernel
theorem dX9_fakeCount_1 : decode cX9_fakeCount 1 = .ok (.getfield 23, 3) := by decide +kernel
theorem dX9_fakeCount_4 : decode cX9_fakeCount 4 = .ok (.getfield 117, 3) := by decide +kernel
theorem dX9_fakeCount_7 : decode cX9_fakeCount 7 = .ok (.invokevirtual 106, 3) := by decide +kernel
theorem dX9_fakeCount_10 : decode cX9_fakeCount 10 = .ok (.ireturn, 1) := by decide +kernel
def fn_X9_fakeCount (N : Nat) (M : Mem) (a0 : Nat) : Option (Int32 × Mem) :=
  (mm_gR M a0 9 3).bind fun b1 =>
  (mm_gR M b1 0 1).bind fun b2 =>
  (mm_ck M b2 3).bind fun _ => mm_b2 (fn_X3_count N M b2) fun v4 M3 =>
  some (v4, M3)
set_option maxRecDepth 100000 in
set_option maxHeartbeats 4000000 in
theorem ct_X9_fakeCount {l : Launch} {ω : Wd} {k N : Nat} {M : Mem} {a0 : Nat} {r : Int32} {M' : Mem} (h : fn_X9_fakeCount N M a0 = some (r, M')) : CM l ω k yX9_fakeCount cX9_fakeCount 1 (some .int) 1 0 0 [.ref a0] M (some (.int r)) M' := by
  refine CM.of (by decide) (Nat.le_of_ble_eq_true rfl) fun Γ hl C hr hi => ?_
  subst hl
  unfold fn_X9_fakeCount at h
  refine jv_aload_n C dX9_fakeCount_0 rfl 0 rfl ?_
  refine jv_getR C fa_X9_23 dX9_fakeCount_1 h (fun b1 h => ?_)
  refine jv_getR C fa_X9_117 dX9_fakeCount_4 h (fun b2 h => ?_)
  refine jv_vI0 (As := []) C lk_X9_106 rfl dX9_fakeCount_7 rfl rfl (by decide) (by decide) (by decide) (Nat.le_of_ble_eq_true rfl) h (fun _ _ h => ct_X3_count h) (fun v4 M3 h => ?_)
  exact jv_iret C hr dX9_fakeCount_10 h
theorem dX9_hasBin_0 : decode cX9_hasBin 0 = .ok (.iconst 0, 1) := by decide +kernel
theorem dX9_hasBin_1 : decode cX9_hasBin 1 = .ok (.istore_n 2, 1) := by decide +kernel
theorem dX9_hasBin_2 : decode cX9_hasBin 2 = .ok (.iload_n 2, 1) := by decide +kernel
theorem dX9_hasBin_3 : decode cX9_hasBin 3 = .ok (.aload_n 0, 1) := by decide +kernel
theorem dX9_hasBin_4 : decode cX9_hasBin 4 = .ok (.getfield 23, 3) := by decide +kernel
theorem dX9_hasBin_7 : decode cX9_hasBin 7 = .ok (.getfield 120, 3) := by decide +kernel
theorem dX9_hasBin_10 : decode cX9_hasBin 10 = .ok (.getfield 124, 3) := by decide +kernel
theorem dX9_hasBin_13 : decode cX9_hasBin 13 = .ok (.if_icmp .ge 26, 3) := by decide +kernel
theorem dX9_hasBin_16 : decode cX9_hasBin 16 = .ok (.aload_n 0, 1) := by decide +kernel
theorem dX9_hasBin_17 : decode cX9_hasBin 17 = .ok (.getfield 23, 3) := by decide +kernel
theorem dX9_hasBin_20 : decode cX9_hasBin 20 = .ok (.getfield 120, 3) := by decide +kernel
theorem dX9_hasBin_23 : decode cX9_hasBin 23 = .ok (.iload_n 2, 1) := by decide +kernel
theorem dX9_hasBin_24 : decode cX9_hasBin 24 = .ok (.invokevirtual 132, 3) := by decide +kernel
theorem dX9_hasBin_27 : decode cX9_hasBin 27 = .ok (.iload_n 1, 1) := by decide +kernel
theorem dX9_hasBin_28 : decode cX9_hasBin 28 = .ok (.if_icmp .ne 5, 3) := by decide +kernel
theorem dX9_hasBin_31 : decode cX9_hasBin 31 = .ok (.iconst 1, 1) := by decide +kernel
theorem dX9_hasBin_32 : decode cX9_hasBin 32 = .ok (.ireturn, 1) := by decide +kernel
theorem dX9_hasBin_33 : decode cX9_hasBin 33 = .ok (.iinc 2 1, 3) := by decide +kernel
theorem dX9_hasBin_36 : decode cX9_hasBin 36 = .ok (.goto (-34), 3) := by decide +kernel
theorem dX9_hasBin_39 : decode cX9_hasBin 39 = .ok (.iconst 0, 1) := by decide +kernel
theorem dX9_hasBin_40 : decode cX9_hasBin 40 = .ok (.ireturn, 1) := by decide +kernel
def fn_X9_hasBin_2 (N : Nat) : Nat → Mem → Nat → Int32 → Int32 → Option (Int32 × Mem)
  | 0, _, _, _, _ => none
  | n + 1, M, a0, x1, x2 =>
    (mm_gR M a0 9 3).bind fun b1 =>
    (mm_gR M b1 0 2).bind fun b2 =>
    (mm_gI M b2 6 1).bind fun v3 =>
    if v3 ≤ x2 then
      some (0, M)
    else
      (mm_gR M a0 9 3).bind fun b4 =>
      (mm_gR M b4 0 2).bind fun b5 =>
      (mm_ck M b5 6).bind fun _ => mm_b2 (fn_X6_at N M b5 x2) fun v7 M6 =>
      if v7 = x1 then
        some (1, M6)
      else
        fn_X9_hasBin_2 N n M6 a0 x1 ((x2 + 1))
set_option maxRecDepth 100000 in
set_option maxHeartbeats 4000000 in
theorem bk_X9_hasBin_2 {Γ : Gm} {ω : Wd} {k N : Nat} {r : Int32} {M' : Mem} (C : Cx Γ cX9_hasBin 3 RX9 ω 1 0 0) (hr : Γ.meth.sig.returnType = (some .boolean)) : ∀ (n : Nat) (M : Mem) (a0 : Nat) (x1 : Int32) (x2 : Int32), fn_X9_hasBin_2 N n M a0 x1 x2 = some (r, M') → JJ Γ (QF Γ ω k 0 0 (some (.int r)) M') 3 ω k M 0 0 2 [(0, .ref a0), (1, .int x1), (2, .int x2)] [] := by
  intro n
  induction n with
  | zero => intro M a0 x1 x2 h; exact jv_no h
  | succ n ih =>
    intro M a0 x1 x2 h
    rw [fn_X9_hasBin_2.eq_2] at h
    refine jv_iload_n C dX9_hasBin_2 rfl 2 rfl ?_
    refine jv_aload_n C dX9_hasBin_3 rfl 0 rfl ?_
    refine jv_getR C fa_X9_23 dX9_hasBin_4 h (fun b1 h => ?_)
    refine jv_getR C fa_X9_120 dX9_hasBin_7 h (fun b2 h => ?_)
    refine jv_getI C fa_X9_124 dX9_hasBin_10 h (fun v3 h => ?_)
    refine jv_icmp_ge (tgt := 39) C dX9_hasBin_13 (by decide) h (fun h => ?_) (fun h => ?_)
    · refine jv_iconst (v := 0) C dX9_hasBin_39 (by decide) ?_
      exact jv_zretc C hr (Or.inl rfl) dX9_hasBin_40 h
    · refine jv_aload_n C dX9_hasBin_16 rfl 0 rfl ?_
      refine jv_getR C fa_X9_23 dX9_hasBin_17 h (fun b4 h => ?_)
      refine jv_getR C fa_X9_120 dX9_hasBin_20 h (fun b5 h => ?_)
      refine jv_iload_n C dX9_hasBin_23 rfl 2 rfl ?_
      refine jv_vI0 (As := [.int x2]) C lk_X9_132 rfl dX9_hasBin_24 rfl rfl (by decide) (by decide) (by decide) (Nat.le_of_ble_eq_true rfl) h (fun _ _ h => ct_X6_at h) (fun v7 M6 h => ?_)
      refine jv_iload_n C dX9_hasBin_27 rfl 1 rfl ?_
      refine jv_icmp_ne (tgt := 33) C dX9_hasBin_28 (by decide) h (fun h => ?_) (fun h => ?_)
      · refine jv_iinc (v := 1) (lv' := [(2, .int (x2 + 1)), (0, .ref a0), (1, .int x1)]) C dX9_hasBin_33 2 rfl (by decide) (by decide) rfl ?_
        refine jv_goto (tgt := 2) C dX9_hasBin_36 (by decide) ?_
        refine jv_sub [1, 2, 0] rfl ?_
        exact ih _ _ _ _ h
      · refine jv_iconst (v := 1) C dX9_hasBin_31 (by decide) ?_
        exact jv_zretc C hr (Or.inr rfl) dX9_hasBin_32 h
def fn_X9_hasBin (N : Nat) (M : Mem) (a0 : Nat) (x1 : Int32) : Option (Int32 × Mem) :=
  fn_X9_hasBin_2 N N M a0 x1 0
set_option maxRecDepth 100000 in
set_option maxHeartbeats 4000000 in
theorem ct_X9_hasBin {l : Launch} {ω : Wd} {k N : Nat} {M : Mem} {a0 : Nat} {x1 : Int32} {r : Int32} {M' : Mem} (h : fn_X9_hasBin N M a0 x1 = some (r, M')) : CM l ω k yX9_hasBin cX9_hasBin 3 (some .boolean) 1 0 0 [.ref a0, .int x1] M (some (.int r)) M' := by
  refine CM.of (by decide) (Nat.le_of_ble_eq_true rfl) fun Γ hl C hr hi => ?_
  subst hl
  unfold fn_X9_hasBin at h
  refine jv_iconst (v := 0) C dX9_hasBin_0 (by decide) ?_
  refine jv_istore_n (lv' := [(2, .int 0), (0, .ref a0), (1, .int x1)]) C dX9_hasBin_1 rfl (by decide) rfl ?_
  refine jv_sub [1, 2, 0] rfl ?_
  exact bk_X9_hasBin_2 C hr _ _ _ _ _ h
theorem dX9_hopperSize_0 : decode cX9_hopperSize 0 = .ok (.aload_n 0, 1) := by decide +kernel
theorem dX9_hopperSize_1 : decode cX9_hopperSize 1 = .ok (.getfield 33, 3) := by decide +kernel
theorem dX9_hopperSize_4 : decode cX9_hopperSize 4 = .ok (.getfield 186, 3) := by decide +kernel
theorem dX9_hopperSize_7 : decode cX9_hopperSize 7 = .ok (.getfield 124, 3) := by decide +kernel
theorem dX9_hopperSize_10 : decode cX9_hopperSize 10 = .ok (.ireturn, 1) := by decide +kernel
def fn_X9_hopperSize (N : Nat) (M : Mem) (a0 : Nat) : Option (Int32 × Mem) :=
  (mm_gR M a0 9 5).bind fun b1 =>
  (mm_gR M b1 7 5).bind fun b2 =>
  (mm_gI M b2 6 1).bind fun v3 =>
  some (v3, M)
set_option maxRecDepth 100000 in
set_option maxHeartbeats 4000000 in
theorem ct_X9_hopperSize {l : Launch} {ω : Wd} {k N : Nat} {M : Mem} {a0 : Nat} {r : Int32} {M' : Mem} (h : fn_X9_hopperSize N M a0 = some (r, M')) : CM l ω k yX9_hopperSize cX9_hopperSize 1 (some .int) 0 0 0 [.ref a0] M (some (.int r)) M' := by
  refine CM.of (by decide) (Nat.le_of_ble_eq_true rfl) fun Γ hl C hr hi => ?_
  subst hl
  unfold fn_X9_hopperSize at h
  refine jv_aload_n C dX9_hopperSize_0 rfl 0 rfl ?_
  refine jv_getR C fa_X9_33 dX9_hopperSize_1 h (fun b1 h => ?_)
  refine jv_getR C fa_X9_186 dX9_hopperSize_4 h (fun b2 h => ?_)
  refine jv_getI C fa_X9_124 dX9_hopperSize_7 h (fun v3 h => ?_)
  exact jv_iret C hr dX9_hopperSize_10 h
theorem dX9_init_0 : decode cX9_init 0 = .ok (.aload_n 0, 1) := by decide +kernel
theorem dX9_init_1 : decode cX9_init 1 = .ok (.invokespecial 1, 3) := by decide +kernel
theorem dX9_init_4 : decode cX9_init 4 = .ok (.aload_n 0, 1) := by decide +kernel
theorem dX9_init_5 : decode cX9_init 5 = .ok (.sipush 800, 3) := by decide +kernel
theorem dX9_init_8 : decode cX9_init 8 = .ok (.newarray .byte, 2) := by decide +kernel
theorem dX9_init_10 : decode cX9_init 10 = .ok (.putfield 9, 3) := by decide +kernel
theorem dX9_init_13 : decode cX9_init 13 = .ok (.aload_n 0, 1) := by decide +kernel
theorem dX9_init_14 : decode cX9_init 14 = .ok (.new 13, 3) := by decide +kernel
theorem dX9_init_17 : decode cX9_init 17 = .ok (.dup, 1) := by decide +kernel
theorem dX9_init_18 : decode cX9_init 18 = .ok (.invokespecial 15, 3) := by decide +kernel
theorem dX9_init_21 : decode cX9_init 21 = .ok (.putfield 16, 3) := by decide +kernel
theorem dX9_init_24 : decode cX9_init 24 = .ok (.aload_n 0, 1) := by decide +kernel
theorem dX9_init_25 : decode cX9_init 25 = .ok (.new 20, 3) := by decide +kernel
theorem dX9_init_28 : decode cX9_init 28 = .ok (.dup, 1) := by decide +kernel
theorem dX9_init_29 : decode cX9_init 29 = .ok (.invokespecial 22, 3) := by decide +kernel
theorem dX9_init_32 : decode cX9_init 32 = .ok (.putfield 23, 3) := by decide +kernel
theorem dX9_init_35 : decode cX9_init 35 = .ok (.aload_n 0, 1) := by decide +kernel
theorem dX9_init_36 : decode cX9_init 36 = .ok (.new 20, 3) := by decide +kernel
theorem dX9_init_39 : decode cX9_init 39 = .ok (.dup, 1) := by decide +kernel
theorem dX9_init_40 : decode cX9_init 40 = .ok (.invokespecial 22, 3) := by decide +kernel
theorem dX9_init_43 : decode cX9_init 43 = .ok (.putfield 27, 3) := by decide +kernel
theorem dX9_init_46 : decode cX9_init 46 = .ok (.aload_n 0, 1) := by decide +kernel
theorem dX9_init_47 : decode cX9_init 47 = .ok (.new 30, 3) := by decide +kernel
theorem dX9_init_50 : decode cX9_init 50 = .ok (.dup, 1) := by decide +kernel
theorem dX9_init_51 : decode cX9_init 51 = .ok (.invokespecial 32, 3) := by decide +kernel
theorem dX9_init_54 : decode cX9_init 54 = .ok (.putfield 33, 3) := by decide +kernel
theorem dX9_init_57 : decode cX9_init 57 = .ok (.aload_n 0, 1) := by decide +kernel
theorem dX9_init_58 : decode cX9_init 58 = .ok (.new 37, 3) := by decide +kernel
theorem dX9_init_61 : decode cX9_init 61 = .ok (.dup, 1) := by decide +kernel
theorem dX9_init_62 : decode cX9_init 62 = .ok (.invokespecial 39, 3) := by decide +kernel
theorem dX9_init_65 : decode cX9_init 65 = .ok (.putfield 40, 3) := by decide +kernel
theorem dX9_init_68 : decode cX9_init 68 = .ok (.aload_n 0, 1) := by decide +kernel
theorem dX9_init_69 : decode cX9_init 69 = .ok (.iconst 2, 1) := by decide +kernel
theorem dX9_init_70 : decode cX9_init 70 = .ok (.anewarray 30, 3) := by decide +kernel
theorem dX9_init_73 : decode cX9_init 73 = .ok (.putfield 44, 3) := by decide +kernel
theorem dX9_init_76 : decode cX9_init 76 = .ok (.iconst 0, 1) := by decide +kernel
theorem dX9_init_77 : decode cX9_init 77 = .ok (.istore_n 1, 1) := by decide +kernel
theorem dX9_init_78 : decode cX9_init 78 = .ok (.iload_n 1, 1) := by decide +kernel
theorem dX9_init_79 : decode cX9_init 79 = .ok (.iconst 2, 1) := by decide +kernel
theorem dX9_init_80 : decode cX9_init 80 = .ok (.if_icmp .ge 22, 3) := by decide +kernel
theorem dX9_init_83 : decode cX9_init 83 = .ok (.aload_n 0, 1) := by decide +kernel
theorem dX9_init_84 : decode cX9_init 84 = .ok (.getfield 44, 3) := by decide +kernel
theorem dX9_init_87 : decode cX9_init 87 = .ok (.iload_n 1, 1) := by decide +kernel
theorem dX9_init_88 : decode cX9_init 88 = .ok (.new 30, 3) := by decide +kernel
theorem dX9_init_91 : decode cX9_init 91 = .ok (.dup, 1) := by decide +kernel
theorem dX9_init_92 : decode cX9_init 92 = .ok (.invokespecial 32, 3) := by decide +kernel
theorem dX9_init_95 : decode cX9_init 95 = .ok (.aastore, 1) := by decide +kernel
theorem dX9_init_96 : decode cX9_init 96 = .ok (.iinc 1 1, 3) := by decide +kernel
theorem dX9_init_99 : decode cX9_init 99 = .ok (.goto (-21), 3) := by decide +kernel
theorem dX9_init_102 : decode cX9_init 102 = .ok (.aload_n 0, 1) := by decide +kernel
theorem dX9_init_103 : decode cX9_init 103 = .ok (.iconst 2, 1) := by decide +kernel
theorem dX9_init_104 : decode cX9_init 104 = .ok (.newarray .boolean, 2) := by decide +kernel
theorem dX9_init_106 : decode cX9_init 106 = .ok (.putfield 48, 3) := by decide +kernel
theorem dX9_init_109 : decode cX9_init 109 = .ok (.aload_n 0, 1) := by decide +kernel
theorem dX9_init_110 : decode cX9_init 110 = .ok (.new 52, 3) := by decide +kernel
theorem dX9_init_113 : decode cX9_init 113 = .ok (.dup, 1) := by decide +kernel
theorem dX9_init_114 : decode cX9_init 114 = .ok (.invokespecial 54, 3) := by decide +kernel
theorem dX9_init_117 : decode cX9_init 117 = .ok (.putfield 55, 3) := by decide +kernel
theorem dX9_init_120 : decode cX9_init 120 = .ok (.aload_n 0, 1) := by decide +kernel
theorem dX9_init_121 : decode cX9_init 121 = .ok (.new 59, 3) := by decide +kernel
theorem dX9_init_124 : decode cX9_init 124 = .ok (.dup, 1) := by decide +kernel
theorem dX9_init_125 : decode cX9_init 125 = .ok (.invokespecial 61, 3) := by decide +kernel
theorem dX9_init_128 : decode cX9_init 128 = .ok (.putfield 62, 3) := by decide +kernel
theorem dX9_init_131 : decode cX9_init 131 = .ok (.aload_n 0, 1) := by decide +kernel
theorem dX9_init_132 : decode cX9_init 132 = .ok (.new 66, 3) := by decide +kernel
theorem dX9_init_135 : decode cX9_init 135 = .ok (.dup, 1) := by decide +kernel
theorem dX9_init_136 : decode cX9_init 136 = .ok (.invokespecial 68, 3) := by decide +kernel
theorem dX9_init_139 : decode cX9_init 139 = .ok (.putfield 69, 3) := by decide +kernel
theorem dX9_init_142 : decode cX9_init 142 = .ok (.return_, 1) := by decide +kernel
def fn_X9_init (N : Nat) (M : Mem) (a0 : Nat) : Option (Unit × Mem) :=
  mm_b2 (mm_nA M 800 800 (fun N => .inl (2, N, .inl (fun _ => 0)))) fun b1 M2 =>
  (mm_pV M2 a0 9 0 (.ref b1)).bind fun M3 =>
  mm_nm M3.length (M3 ++ [.inr (4, [.null, .int 0, .int 0, .int 0, .int 0, .int 0, .int 0, .int 0, .int 0])]) fun b4 M5 =>
  mm_b2 (fn_X4_init N M5 b4) fun _ M6 =>
  (mm_pV M6 a0 9 2 (.ref b4)).bind fun M7 =>
  mm_nm M7.length (M7 ++ [.inr (0, [.null, .null, .null, .null, .int 0, .int 0, .int 0])]) fun b8 M9 =>
  mm_b2 (fn_X0_init N M9 b8) fun _ M10 =>
  (mm_pV M10 a0 9 3 (.ref b8)).bind fun M11 =>
  mm_nm M11.length (M11 ++ [.inr (0, [.null, .null, .null, .null, .int 0, .int 0, .int 0])]) fun b12 M13 =>
  mm_b2 (fn_X0_init N M13 b12) fun _ M14 =>
  (mm_pV M14 a0 9 4 (.ref b12)).bind fun M15 =>
  mm_nm M15.length (M15 ++ [.inr (7, [.int 0, .int 0, .int 0, .int 0, .int 0, .null, .null, .null, .null, .null, .null, .null, .null, .null, .null])]) fun b16 M17 =>
  mm_b2 (fn_X7_init N M17 b16) fun _ M18 =>
  (mm_pV M18 a0 9 5 (.ref b16)).bind fun M19 =>
  mm_nm M19.length (M19 ++ [.inr (1, [.null, .int 0, .int 0])]) fun b20 M21 =>
  mm_b2 (fn_X1_init N M21 b20) fun _ M22 =>
  (mm_pV M22 a0 9 6 (.ref b20)).bind fun M23 =>
  mm_b2 (mm_nA M23 2 2 (fun N => .inl (4, N, .inr (.inr (.inr (.inr (fun _ => none))))))) fun b24 M25 =>
  (mm_pV M25 a0 9 7 (.ref b24)).bind fun M26 =>
  (mm_gR M26 a0 9 7).bind fun b27 =>
  mm_nm M26.length (M26 ++ [.inr (7, [.int 0, .int 0, .int 0, .int 0, .int 0, .null, .null, .null, .null, .null, .null, .null, .null, .null, .null])]) fun b28 M29 =>
  mm_b2 (fn_X7_init N M29 b28) fun _ M30 =>
  (mm_sR M30 b27 0 b28).bind fun M31 =>
  (mm_gR M31 a0 9 7).bind fun b32 =>
  mm_nm M31.length (M31 ++ [.inr (7, [.int 0, .int 0, .int 0, .int 0, .int 0, .null, .null, .null, .null, .null, .null, .null, .null, .null, .null])]) fun b33 M34 =>
  mm_b2 (fn_X7_init N M34 b33) fun _ M35 =>
  (mm_sR M35 b32 (0 + 1) b33).bind fun M36 =>
  mm_b2 (mm_nA M36 2 2 (fun N => .inl (3, N, .inl (fun _ => 0)))) fun b37 M38 =>
  (mm_pV M38 a0 9 8 (.ref b37)).bind fun M39 =>
  mm_nm M39.length (M39 ++ [.inr (2, [.int 0, .int 0])]) fun b40 M41 =>
  mm_b2 (fn_X2_init N M41 b40) fun _ M42 =>
  (mm_pV M42 a0 9 9 (.ref b40)).bind fun M43 =>
  mm_nm M43.length (M43 ++ [.inr (5, [.null, .null, .null, .long 0, .null])]) fun b44 M45 =>
  mm_b2 (fn_X5_init N M45 b44) fun _ M46 =>
  (mm_pV M46 a0 9 10 (.ref b44)).bind fun M47 =>
  mm_nm M47.length (M47 ++ [.inr (8, [.null, .null])]) fun b48 M49 =>
  mm_b2 (fn_X8_init N M49 b48) fun _ M50 =>
  (mm_pV M50 a0 9 11 (.ref b48)).bind fun M51 =>
  some ((), M51)
set_option maxRecDepth 100000 in
set_option maxHeartbeats 4000000 in
theorem ct_X9_init {l : Launch} {ω : Wd} {N : Nat} {M : Mem} {a0 : Nat} {r : Unit} {M' : Mem} (h : fn_X9_init N M a0 = some (r, M')) : CM l ω 0 yX9_init cX9_init 2 none 6 388 17087 [.ref a0] M none M' := by
  refine CM.of (by decide) (Nat.le_of_ble_eq_true rfl) fun Γ hl C hr hi => ?_
  subst hl
  unfold fn_X9_init at h
  refine jv_aload_n C dX9_init_0 rfl 0 rfl ?_
  refine jv_objInit C gw_128 gw_129 gw_130 (Nat.le_of_ble_eq_true rfl) dX9_init_1 ?_
  refine jv_aload_n C dX9_init_4 rfl 0 rfl ?_
  refine jv_sipush (v := 800) C dX9_init_5 (by decide) ?_
  refine jv_newa2 (lim := 800) C gw_166 (by decide) (by decide) (by decide) dX9_init_8 h (fun b1 M2 h => ?_)
  refine jv_putFR C fp_X9_9 hi dX9_init_10 (fun _ => ⟨rfl, rfl⟩) h (fun M3 h => ?_)
  refine jv_aload_n C dX9_init_13 rfl 0 rfl ?_
  refine jv_new (ci := 4) (fs := [.null, .int 0, .int 0, .int 0, .int 0, .int 0, .int 0, .int 0, .int 0]) (tf := tyX4) C rfl uw_X4 tyX4_ok gw_131 gw_132 gw_94 (fun j hj => nd_X4 ω j hj) (by decide) (by decide) dX9_init_14 ?_
  refine jv_name h (fun b4 M5 h => ?_)
  refine jv_dup C dX9_init_17 rfl ?_
  refine jv_iV (As := []) C lk_X9_15 dX9_init_18 rfl rfl (by decide) (by decide) (by decide) (Nat.le_of_ble_eq_true rfl) h (fun _ _ h => ct_X4_init h) (fun _ M6 h => ?_)
  refine jv_putFR C fp_X9_16 hi dX9_init_21 (fun _ => ⟨rfl, rfl⟩) h (fun M7 h => ?_)
  refine jv_aload_n C dX9_init_24 rfl 0 rfl ?_
  refine jv_new (ci := 0) (fs := [.null, .null, .null, .null, .int 0, .int 0, .int 0]) (tf := tyX0) C rfl uw_X0 tyX0_ok gw_167 gw_168 gw_95 (fun j hj => nd_X0 ω j hj) (by decide) (by decide) dX9_init_25 ?_
  refine jv_name h (fun b8 M9 h => ?_)
  refine jv_dup C dX9_init_28 rfl ?_
  refine jv_iV (As := []) C lk_X9_22 dX9_init_29 rfl rfl (by decide) (by decide) (by decide) (Nat.le_of_ble_eq_true rfl) h (fun _ _ h => ct_X0_init h) (fun _ M10 h => ?_)
  refine jv_putR C fp_X9_23 dX9_init_32 (fun _ => ⟨rfl, rfl⟩) h (fun M11 h => ?_)
  refine jv_aload_n C dX9_init_35 rfl 0 rfl ?_
  refine jv_new (ci := 0) (fs := [.null, .null, .null, .null, .int 0, .int 0, .int 0]) (tf := tyX0) C rfl uw_X0 tyX0_ok gw_167 gw_168 gw_95 (fun j hj => nd_X0 ω j hj) (by decide) (by decide) dX9_init_36 ?_
  refine jv_name h (fun b12 M13 h => ?_)
  refine jv_dup C dX9_init_39 rfl ?_
  refine jv_iV (As := []) C lk_X9_22 dX9_init_40 rfl rfl (by decide) (by decide) (by decide) (Nat.le_of_ble_eq_true rfl) h (fun _ _ h => ct_X0_init h) (fun _ M14 h => ?_)
  refine jv_putR C fp_X9_27 dX9_init_43 (fun _ => ⟨rfl, rfl⟩) h (fun M15 h => ?_)
  refine jv_aload_n C dX9_init_46 rfl 0 rfl ?_
  refine jv_new (ci := 7) (fs := [.int 0, .int 0, .int 0, .int 0, .int 0, .null, .null, .null, .null, .null, .null, .null, .null, .null, .null]) (tf := tyX7) C rfl uw_X7 tyX7_ok gw_267 gw_268 gw_99 (fun j hj => nd_X7 ω j hj) (by decide) (by decide) dX9_init_47 ?_
  refine jv_name h (fun b16 M17 h => ?_)
  refine jv_dup C dX9_init_50 rfl ?_
  refine jv_iV (As := []) C lk_X9_32 dX9_init_51 rfl rfl (by decide) (by decide) (by decide) (Nat.le_of_ble_eq_true rfl) h (fun _ _ h => ct_X7_init h) (fun _ M18 h => ?_)
  refine jv_putFR C fp_X9_33 hi dX9_init_54 (fun _ => ⟨rfl, rfl⟩) h (fun M19 h => ?_)
  refine jv_aload_n C dX9_init_57 rfl 0 rfl ?_
  refine jv_new (ci := 1) (fs := [.null, .int 0, .int 0]) (tf := tyX1) C rfl uw_X1 tyX1_ok gw_678 gw_679 gw_117 (fun j hj => nd_X1 ω j hj) (by decide) (by decide) dX9_init_58 ?_
  refine jv_name h (fun b20 M21 h => ?_)
  refine jv_dup C dX9_init_61 rfl ?_
  refine jv_iV (As := []) C lk_X9_39 dX9_init_62 rfl rfl (by decide) (by decide) (by decide) (Nat.le_of_ble_eq_true rfl) h (fun _ _ h => ct_X1_init h) (fun _ M22 h => ?_)
  refine jv_putFR C fp_X9_40 hi dX9_init_65 (fun _ => ⟨rfl, rfl⟩) h (fun M23 h => ?_)
  refine jv_aload_n C dX9_init_68 rfl 0 rfl ?_
  refine jv_iconst (v := 2) C dX9_init_69 (by decide) ?_
  refine jv_newq2 (lim := 2) C gw_267 (by decide) (by decide) (by decide) dX9_init_70 h (fun b24 M25 h => ?_)
  refine jv_putFR C fp_X9_44 hi dX9_init_73 (fun _ => ⟨rfl, rfl⟩) h (fun M26 h => ?_)
  refine jv_iconst (v := 0) C dX9_init_76 (by decide) ?_
  refine jv_istore_n (lv' := [(1, .int 0), (0, .ref a0)]) C dX9_init_77 rfl (by decide) rfl ?_
  refine jv_iload_n C dX9_init_78 rfl 0 rfl ?_
  refine jv_iconst (v := 2) C dX9_init_79 (by decide) ?_
  refine jv_icmp_gekf (tgt := 102) C dX9_init_80 (by decide) (by decide) ?_
  refine jv_aload_n C dX9_init_83 rfl 1 rfl ?_
  refine jv_getR C fa_X9_44 dX9_init_84 h (fun b27 h => ?_)
  refine jv_iload_n C dX9_init_87 rfl 0 rfl ?_
  refine jv_new (ci := 7) (fs := [.int 0, .int 0, .int 0, .int 0, .int 0, .null, .null, .null, .null, .null, .null, .null, .null, .null, .null]) (tf := tyX7) C rfl uw_X7 tyX7_ok gw_267 gw_268 gw_99 (fun j hj => nd_X7 ω j hj) (by decide) (by decide) dX9_init_88 ?_
  refine jv_name h (fun b28 M29 h => ?_)
  refine jv_dup C dX9_init_91 rfl ?_
  refine jv_iV (As := []) C lk_X9_32 dX9_init_92 rfl rfl (by decide) (by decide) (by decide) (Nat.le_of_ble_eq_true rfl) h (fun _ _ h => ct_X7_init h) (fun _ M30 h => ?_)
  refine jv_aast C dX9_init_95 h (fun M31 h => ?_)
  refine jv_iinc (v := 1) (lv' := [(1, .int (0 + 1)), (0, .ref a0)]) C dX9_init_96 0 rfl (by decide) (by decide) rfl ?_
  refine jv_goto (tgt := 78) C dX9_init_99 (by decide) ?_
  refine jv_iload_n C dX9_init_78 rfl 0 rfl ?_
  refine jv_iconst (v := 2) C dX9_init_79 (by decide) ?_
  refine jv_icmp_gekf (tgt := 102) C dX9_init_80 (by decide) (by decide) ?_
  refine jv_aload_n C dX9_init_83 rfl 1 rfl ?_
  refine jv_getR C fa_X9_44 dX9_init_84 h (fun b32 h => ?_)
  refine jv_iload_n C dX9_init_87 rfl 0 rfl ?_
  refine jv_new (ci := 7) (fs := [.int 0, .int 0, .int 0, .int 0, .int 0, .null, .null, .null, .null, .null, .null, .null, .null, .null, .null]) (tf := tyX7) C rfl uw_X7 tyX7_ok gw_267 gw_268 gw_99 (fun j hj => nd_X7 ω j hj) (by decide) (by decide) dX9_init_88 ?_
  refine jv_name h (fun b33 M34 h => ?_)
  refine jv_dup C dX9_init_91 rfl ?_
  refine jv_iV (As := []) C lk_X9_32 dX9_init_92 rfl rfl (by decide) (by decide) (by decide) (Nat.le_of_ble_eq_true rfl) h (fun _ _ h => ct_X7_init h) (fun _ M35 h => ?_)
  refine jv_aast C dX9_init_95 h (fun M36 h => ?_)
  refine jv_iinc (v := 1) (lv' := [(1, .int ((0 + 1) + 1)), (0, .ref a0)]) C dX9_init_96 0 rfl (by decide) (by decide) rfl ?_
  refine jv_goto (tgt := 78) C dX9_init_99 (by decide) ?_
  refine jv_iload_n C dX9_init_78 rfl 0 rfl ?_
  refine jv_iconst (v := 2) C dX9_init_79 (by decide) ?_
  refine jv_icmp_gekt (tgt := 102) C dX9_init_80 (by decide) (by decide) ?_
  refine jv_aload_n C dX9_init_102 rfl 1 rfl ?_
  refine jv_iconst (v := 2) C dX9_init_103 (by decide) ?_
  refine jv_newa3 (lim := 2) C gw_712 (by decide) (by decide) (by decide) dX9_init_104 h (fun b37 M38 h => ?_)
  refine jv_putFR C fp_X9_48 hi dX9_init_106 (fun _ => ⟨rfl, rfl⟩) h (fun M39 h => ?_)
  refine jv_aload_n C dX9_init_109 rfl 1 rfl ?_
  refine jv_new (ci := 2) (fs := [.int 0, .int 0]) (tf := tyX2) C rfl uw_X2 tyX2_ok gw_698 gw_699 gw_118 (fun j hj => nd_X2 ω j hj) (by decide) (by decide) dX9_init_110 ?_
  refine jv_name h (fun b40 M41 h => ?_)
  refine jv_dup C dX9_init_113 rfl ?_
  refine jv_iV0 (As := []) C lk_X9_54 dX9_init_114 rfl rfl (by decide) (by decide) (by decide) (Nat.le_of_ble_eq_true rfl) h (fun _ _ h => ct_X2_init h) (fun _ M42 h => ?_)
  refine jv_putFR C fp_X9_55 hi dX9_init_117 (fun _ => ⟨rfl, rfl⟩) h (fun M43 h => ?_)
  refine jv_aload_n C dX9_init_120 rfl 1 rfl ?_
  refine jv_new (ci := 5) (fs := [.null, .null, .null, .long 0, .null]) (tf := tyX5) C rfl uw_X5 tyX5_ok gw_713 gw_714 gw_119 (fun j hj => nd_X5 ω j hj) (by decide) (by decide) dX9_init_121 ?_
  refine jv_name h (fun b44 M45 h => ?_)
  refine jv_dup C dX9_init_124 rfl ?_
  refine jv_iV (As := []) C lk_X9_61 dX9_init_125 rfl rfl (by decide) (by decide) (by decide) (Nat.le_of_ble_eq_true rfl) h (fun _ _ h => ct_X5_init h) (fun _ M46 h => ?_)
  refine jv_putFR C fp_X9_62 hi dX9_init_128 (fun _ => ⟨rfl, rfl⟩) h (fun M47 h => ?_)
  refine jv_aload_n C dX9_init_131 rfl 1 rfl ?_
  refine jv_new (ci := 8) (fs := [.null, .null]) (tf := tyX8) C rfl uw_X8 tyX8_ok gw_739 gw_740 gw_120 (fun j hj => nd_X8 ω j hj) (by decide) (by decide) dX9_init_132 ?_
  refine jv_name h (fun b48 M49 h => ?_)
  refine jv_dup C dX9_init_135 rfl ?_
  refine jv_iV (As := []) C lk_X9_68 dX9_init_136 rfl rfl (by decide) (by decide) (by decide) (Nat.le_of_ble_eq_true rfl) h (fun _ _ h => ct_X8_init h) (fun _ M50 h => ?_)
  refine jv_putFR C fp_X9_69 hi dX9_init_139 (fun _ => ⟨rfl, rfl⟩) h (fun M51 h => ?_)
  exact jv_vret C hr dX9_init_142 h
theorem dX9_insert_0 : decode cX9_insert 0 = .ok (.iload_n 1, 1) := by decide +kernel
theorem dX9_insert_1 : decode cX9_insert 1 = .ok (.iload_n 2, 1) := by decide +kernel
theorem dX9_insert_2 : decode cX9_insert 2 = .ok (.invokestatic 150, 3) := by decide +kernel
theorem dX9_insert_5 : decode cX9_insert 5 = .ok (.ifCond .ne 5, 3) := by decide +kernel
theorem dX9_insert_8 : decode cX9_insert 8 = .ok (.iconst (-1), 1) := by decide +kernel
theorem dX9_insert_9 : decode cX9_insert 9 = .ok (.ireturn, 1) := by decide +kernel
theorem dX9_insert_10 : decode cX9_insert 10 = .ok (.aload_n 0, 1) := by decide +kernel
theorem dX9_insert_11 : decode cX9_insert 11 = .ok (.getfield 33, 3) := by decide +kernel
theorem dX9_insert_14 : decode cX9_insert 14 = .ok (.getfield 186, 3) := by decide +kernel
theorem dX9_insert_17 : decode cX9_insert 17 = .ok (.invokevirtual 289, 3) := by decide +kernel
theorem dX9_insert_20 : decode cX9_insert 20 = .ok (.ifCond .eq 6, 3) := by decide +kernel
theorem dX9_insert_23 : decode cX9_insert 23 = .ok (.bipush (-3), 2) := by decide +kernel
theorem dX9_insert_25 : decode cX9_insert 25 = .ok (.ireturn, 1) := by decide +kernel
theorem dX9_insert_26 : decode cX9_insert 26 = .ok (.aload_n 0, 1) := by decide +kernel
theorem dX9_insert_27 : decode cX9_insert 27 = .ok (.getfield 40, 3) := by decide +kernel
theorem dX9_insert_30 : decode cX9_insert 30 = .ok (.aload_n 0, 1) := by decide +kernel
theorem dX9_insert_31 : decode cX9_insert 31 = .ok (.getfield 33, 3) := by decide +kernel
theorem dX9_insert_34 : decode cX9_insert 34 = .ok (.invokevirtual 279, 3) := by decide +kernel
theorem dX9_insert_37 : decode cX9_insert 37 = .ok (.aload_n 0, 1) := by decide +kernel
theorem dX9_insert_38 : decode cX9_insert 38 = .ok (.getfield 33, 3) := by decide +kernel
theorem dX9_insert_41 : decode cX9_insert 41 = .ok (.getfield 186, 3) := by decide +kernel
theorem dX9_insert_44 : decode cX9_insert 44 = .ok (.iload_n 1, 1) := by decide +kernel
theorem dX9_insert_45 : decode cX9_insert 45 = .ok (.iload_n 2, 1) := by decide +kernel
theorem dX9_insert_46 : decode cX9_insert 46 = .ok (.invokestatic 292, 3) := by decide +kernel
theorem dX9_insert_49 : decode cX9_insert 49 = .ok (.invokevirtual 295, 3) := by decide +kernel
theorem dX9_insert_52 : decode cX9_insert 52 = .ok (.aload_n 0, 1) := by decide +kernel
theorem dX9_insert_53 : decode cX9_insert 53 = .ok (.getfield 33, 3) := by decide +kernel
theorem dX9_insert_56 : decode cX9_insert 56 = .ok (.getfield 186, 3) := by decide +kernel
theorem dX9_insert_59 : decode cX9_insert 59 = .ok (.getfield 124, 3) := by decide +kernel
theorem dX9_insert_62 : decode cX9_insert 62 = .ok (.ireturn, 1) := by decide +kernel
def fn_X9_insert (N : Nat) (M : Mem) (a0 : Nat) (x1 : Int32) (x2 : Int32) : Option (Int32 × Mem) :=
  mm_b2 (fn_X9_isMeasurement N M x1 x2) fun v2 M1 =>
  if v2 = 0 then
    some ((-1), M1)
  else
    (mm_gR M1 a0 9 5).bind fun b3 =>
    (mm_gR M1 b3 7 5).bind fun b4 =>
    (mm_ck M1 b4 6).bind fun _ => mm_b2 (fn_X6_isFull N M1 b4) fun v6 M5 =>
    if v6 = 0 then
      (mm_gR M5 a0 9 6).bind fun b7 =>
      (mm_gR M5 a0 9 5).bind fun b8 =>
      (mm_ck M5 b7 1).bind fun _ => mm_b2 (fn_X1_push N M5 b7 b8) fun _ M9 =>
      (mm_gR M9 a0 9 5).bind fun b10 =>
      (mm_gR M9 b10 7 5).bind fun b11 =>
      mm_b2 (fn_X9_coinOf N M9 x1 x2) fun v13 M12 =>
      (mm_ck M12 b11 6).bind fun _ => mm_b2 (fn_X6_add N M12 b11 v13) fun _ M14 =>
      (mm_gR M14 a0 9 5).bind fun b15 =>
      (mm_gR M14 b15 7 5).bind fun b16 =>
      (mm_gI M14 b16 6 1).bind fun v17 =>
      some (v17, M14)
    else
      some ((-3), M5)
set_option maxRecDepth 100000 in
set_option maxHeartbeats 4000000 in
theorem ct_X9_insert {l : Launch} {ω : Wd} {k N : Nat} {M : Mem} {a0 : Nat} {x1 : Int32} {x2 : Int32} {r : Int32} {M' : Mem} (h : fn_X9_insert N M a0 x1 x2 = some (r, M')) : CM l ω k yX9_insert cX9_insert 3 (some .int) 4 0 0 [.ref a0, .int x1, .int x2] M (some (.int r)) M' := by
  refine CM.of (by decide) (Nat.le_of_ble_eq_true rfl) fun Γ hl C hr hi => ?_
  subst hl
  unfold fn_X9_insert at h
  refine jv_iload_n C dX9_insert_0 rfl 1 rfl ?_
  refine jv_iload_n C dX9_insert_1 rfl 2 rfl ?_
  refine jv_sI0 (As := [.int x1, .int x2]) C lk_X9_150 dX9_insert_2 rfl rfl (by decide) (by decide) (by decide) (Nat.le_of_ble_eq_true rfl) h (fun _ _ h => ct_X9_isMeasurement h) (fun v2 M1 h => ?_)
  refine jv_if_ne (tgt := 10) C dX9_insert_5 (by decide) h (fun h => ?_) (fun h => ?_)
  · refine jv_aload_n C dX9_insert_10 rfl 0 rfl ?_
    refine jv_getR C fa_X9_33 dX9_insert_11 h (fun b3 h => ?_)
    refine jv_getR C fa_X9_186 dX9_insert_14 h (fun b4 h => ?_)
    refine jv_vI0 (As := []) C lk_X9_289 rfl dX9_insert_17 rfl rfl (by decide) (by decide) (by decide) (Nat.le_of_ble_eq_true rfl) h (fun _ _ h => ct_X6_isFull h) (fun v6 M5 h => ?_)
    refine jv_if_eq (tgt := 26) C dX9_insert_20 (by decide) h (fun h => ?_) (fun h => ?_)
    · refine jv_aload_n C dX9_insert_26 rfl 0 rfl ?_
      refine jv_getR C fa_X9_40 dX9_insert_27 h (fun b7 h => ?_)
      refine jv_aload_n C dX9_insert_30 rfl 0 rfl ?_
      refine jv_getR C fa_X9_33 dX9_insert_31 h (fun b8 h => ?_)
      refine jv_vV0 (As := [.ref b8]) C lk_X9_279 rfl dX9_insert_34 rfl rfl (by decide) (by decide) (by decide) (Nat.le_of_ble_eq_true rfl) h (fun _ _ h => ct_X1_push h) (fun _ M9 h => ?_)
      refine jv_aload_n C dX9_insert_37 rfl 0 rfl ?_
      refine jv_getR C fa_X9_33 dX9_insert_38 h (fun b10 h => ?_)
      refine jv_getR C fa_X9_186 dX9_insert_41 h (fun b11 h => ?_)
      refine jv_iload_n C dX9_insert_44 rfl 1 rfl ?_
      refine jv_iload_n C dX9_insert_45 rfl 2 rfl ?_
      refine jv_sI0 (As := [.int x1, .int x2]) C lk_X9_292 dX9_insert_46 rfl rfl (by decide) (by decide) (by decide) (Nat.le_of_ble_eq_true rfl) h (fun _ _ h => ct_X9_coinOf h) (fun v13 M12 h => ?_)
      refine jv_vV0 (As := [.int v13]) C lk_X9_295 rfl dX9_insert_49 rfl rfl (by decide) (by decide) (by decide) (Nat.le_of_ble_eq_true rfl) h (fun _ _ h => ct_X6_add h) (fun _ M14 h => ?_)
      refine jv_aload_n C dX9_insert_52 rfl 0 rfl ?_
      refine jv_getR C fa_X9_33 dX9_insert_53 h (fun b15 h => ?_)
      refine jv_getR C fa_X9_186 dX9_insert_56 h (fun b16 h => ?_)
      refine jv_getI C fa_X9_124 dX9_insert_59 h (fun v17 h => ?_)
      exact jv_iret C hr dX9_insert_62 h
    · refine jv_bipush (v := (-3)) C dX9_insert_23 (by decide) ?_
      exact jv_iret C hr dX9_insert_25 h
  · refine jv_iconst (v := (-1)) C dX9_insert_8 (by decide) ?_
    exact jv_iret C hr dX9_insert_9 h
theorem dX9_isJammed_0 : decode cX9_isJammed 0 = .ok (.aload_n 0, 1) := by decide +kernel
theorem dX9_isJammed_1 : decode cX9_isJammed 1 = .ok (.getfield 33, 3) := by decide +kernel
theorem dX9_isJammed_4 : decode cX9_isJammed 4 = .ok (.getfield 192, 3) := by decide +kernel
theorem dX9_isJammed_7 : decode cX9_isJammed 7 = .ok (.ireturn, 1) := by decide +kernel
def fn_X9_isJammed (N : Nat) (M : Mem) (a0 : Nat) : Option (Int32 × Mem) :=
  (mm_gR M a0 9 5).bind fun b1 =>
  (mm_gI M b1 7 3).bind fun v2 =>
  if v2 = 0 ∨ v2 = 1 then some (v2, M) else none
set_option maxRecDepth 100000 in
set_option maxHeartbeats 4000000 in
theorem ct_X9_isJammed {l : Launch} {ω : Wd} {k N : Nat} {M : Mem} {a0 : Nat} {r : Int32} {M' : Mem} (h : fn_X9_isJammed N M a0 = some (r, M')) : CM l ω k yX9_isJammed cX9_isJammed 1 (some .boolean) 0 0 0 [.ref a0] M (some (.int r)) M' := by
  refine CM.of (by decide) (Nat.le_of_ble_eq_true rfl) fun Γ hl C hr hi => ?_
  subst hl
  unfold fn_X9_isJammed at h
  refine jv_aload_n C dX9_isJammed_0 rfl 0 rfl ?_
  refine jv_getR C fa_X9_33 dX9_isJammed_1 h (fun b1 h => ?_)
  refine jv_getI C fa_X9_192 dX9_isJammed_4 h (fun v2 h => ?_)
  exact jv_zret C hr dX9_isJammed_7 h
theorem dX9_isMargin_0 : decode cX9_isMargin 0 = .ok (.iload_n 0, 1) := by decide +kernel
theorem dX9_isMargin_1 : decode cX9_isMargin 1 = .ok (.ifCond .lt 14, 3) := by decide +kernel
theorem dX9_isMargin_4 : decode cX9_isMargin 4 = .ok (.iload_n 0, 1) := by decide +kernel
theorem dX9_isMargin_5 : decode cX9_isMargin 5 = .ok (.sipush 2000, 3) := by decide +kernel
theorem dX9_isMargin_8 : decode cX9_isMargin 8 = .ok (.if_icmp .gt 7, 3) := by decide +kernel
theorem dX9_isMargin_11 : decode cX9_isMargin 11 = .ok (.iconst 1, 1) := by decide +kernel
theorem dX9_isMargin_12 : decode cX9_isMargin 12 = .ok (.goto 4, 3) := by decide +kernel
theorem dX9_isMargin_15 : decode cX9_isMargin 15 = .ok (.iconst 0, 1) := by decide +kernel
theorem dX9_isMargin_16 : decode cX9_isMargin 16 = .ok (.ireturn, 1) := by decide +kernel
def fn_X9_isMargin (N : Nat) (M : Mem) (x0 : Int32) : Option (Int32 × Mem) :=
  if x0 < 0 then
    some (0, M)
  else
    if 2000 < x0 then
      some (0, M)
    else
      some (1, M)
set_option maxRecDepth 100000 in
set_option maxHeartbeats 4000000 in
theorem ct_X9_isMargin {l : Launch} {ω : Wd} {k N : Nat} {M : Mem} {x0 : Int32} {r : Int32} {M' : Mem} (h : fn_X9_isMargin N M x0 = some (r, M')) : CM l ω k yX9_isMargin cX9_isMargin 1 (some .boolean) 0 0 0 [.int x0] M (some (.int r)) M' := by
  refine CM.of (by decide) (Nat.le_of_ble_eq_true rfl) fun Γ hl C hr hi => ?_
  subst hl
  unfold fn_X9_isMargin at h
  refine jv_iload_n C dX9_isMargin_0 rfl 0 rfl ?_
  refine jv_if_lt (tgt := 15) C dX9_isMargin_1 (by decide) h (fun h => ?_) (fun h => ?_)
  · refine jv_iconst (v := 0) C dX9_isMargin_15 (by decide) ?_
    exact jv_zretc C hr (Or.inl rfl) dX9_isMargin_16 h
  · refine jv_iload_n C dX9_isMargin_4 rfl 0 rfl ?_
    refine jv_sipush (v := 2000) C dX9_isMargin_5 (by decide) ?_
    refine jv_icmp_gt (tgt := 15) C dX9_isMargin_8 (by decide) h (fun h => ?_) (fun h => ?_)
    · refine jv_iconst (v := 0) C dX9_isMargin_15 (by decide) ?_
      exact jv_zretc C hr (Or.inl rfl) dX9_isMargin_16 h
    · refine jv_iconst (v := 1) C dX9_isMargin_11 (by decide) ?_
      refine jv_goto (tgt := 16) C dX9_isMargin_12 (by decide) ?_
      exact jv_zretc C hr (Or.inr rfl) dX9_isMargin_16 h
theorem dX9_nextInLoop_0 : decode cX9_nextInLoop 0 = .ok (.iconst 0, 1) := by decide +kernel
theorem dX9_nextInLoop_1 : decode cX9_nextInLoop 1 = .ok (.istore_n 1, 1) := by decide +kernel
theorem dX9_nextInLoop_2 : decode cX9_nextInLoop 2 = .ok (.iload_n 1, 1) := by decide +kernel
theorem dX9_nextInLoop_3 : decode cX9_nextInLoop 3 = .ok (.aload_n 0, 1) := by decide +kernel
theorem dX9_nextInLoop_4 : decode cX9_nextInLoop 4 = .ok (.getfield 33, 3) := by decide +kernel
theorem dX9_nextInLoop_7 : decode cX9_nextInLoop 7 = .ok (.getfield 189, 3) := by decide +kernel
theorem dX9_nextInLoop_10 : decode cX9_nextInLoop 10 = .ok (.getfield 124, 3) := by decide +kernel
theorem dX9_nextInLoop_13 : decode cX9_nextInLoop 13 = .ok (.if_icmp .ge 29, 3) := by decide +kernel
theorem dX9_nextInLoop_16 : decode cX9_nextInLoop 16 = .ok (.aload_n 0, 1) := by decide +kernel
theorem dX9_nextInLoop_17 : decode cX9_nextInLoop 17 = .ok (.aload_n 0, 1) := by decide +kernel
theorem dX9_nextInLoop_18 : decode cX9_nextInLoop 18 = .ok (.getfield 33, 3) := by decide +kernel
theorem dX9_nextInLoop_21 : decode cX9_nextInLoop 21 = .ok (.getfield 189, 3) := by decide +kernel
theorem dX9_nextInLoop_24 : decode cX9_nextInLoop 24 = .ok (.iload_n 1, 1) := by decide +kernel
theorem dX9_nextInLoop_25 : decode cX9_nextInLoop 25 = .ok (.invokevirtual 132, 3) := by decide +kernel
theorem dX9_nextInLoop_28 : decode cX9_nextInLoop 28 = .ok (.invokevirtual 303, 3) := by decide +kernel
theorem dX9_nextInLoop_31 : decode cX9_nextInLoop 31 = .ok (.ifCond .lt 5, 3) := by decide +kernel
theorem dX9_nextInLoop_34 : decode cX9_nextInLoop 34 = .ok (.iload_n 1, 1) := by decide +kernel
theorem dX9_nextInLoop_35 : decode cX9_nextInLoop 35 = .ok (.ireturn, 1) := by decide +kernel
theorem dX9_nextInLoop_36 : decode cX9_nextInLoop 36 = .ok (.iinc 1 1, 3) := by decide +kernel
theorem dX9_nextInLoop_39 : decode cX9_nextInLoop 39 = .ok (.goto (-37), 3) := by decide +kernel
theorem dX9_nextInLoop_42 : decode cX9_nextInLoop 42 = .ok (.bipush (-2), 2) := by decide +kernel
theorem dX9_nextInLoop_44 : decode cX9_nextInLoop 44 = .ok (.ireturn, 1) := by decide +kernel
def fn_X9_nextInLoop_2 (N : Nat) : Nat → Mem → Nat → Int32 → Option (Int32 × Mem)
  | 0, _, _, _ => none
  | n + 1, M, a0, x1 =>
    (mm_gR M a0 9 5).bind fun b1 =>
    (mm_gR M b1 7 6).bind fun b2 =>
    (mm_gI M b2 6 1).bind fun v3 =>
    if v3 ≤ x1 then
      some ((-2), M)
    else
      (mm_gR M a0 9 5).bind fun b4 =>
      (mm_gR M b4 7 6).bind fun b5 =>
      (mm_ck M b5 6).bind fun _ => mm_b2 (fn_X6_at N M b5 x1) fun v7 M6 =>
      (mm_ck M6 a0 9).bind fun _ => mm_b2 (fn_X9_binFor N M6 a0 v7) fun v9 M8 =>
      if v9 < 0 then
        fn_X9_nextInLoop_2 N n M8 a0 ((x1 + 1))
      else
        some (x1, M8)
set_option maxRecDepth 100000 in
set_option maxHeartbeats 4000000 in
theorem bk_X9_nextInLoop_2 {Γ : Gm} {ω : Wd} {k N : Nat} {r : Int32} {M' : Mem} (C : Cx Γ cX9_nextInLoop 2 RX9 ω 3 0 0) (hr : Γ.meth.sig.returnType = (some .int)) : ∀ (n : Nat) (M : Mem) (a0 : Nat) (x1 : Int32), fn_X9_nextInLoop_2 N n M a0 x1 = some (r, M') → JJ Γ (QF Γ ω k 0 0 (some (.int r)) M') 2 ω k M 0 0 2 [(0, .ref a0), (1, .int x1)] [] := by
  intro n
  induction n with
  | zero => intro M a0 x1 h; exact jv_no h
  | succ n ih =>
    intro M a0 x1 h
    rw [fn_X9_nextInLoop_2.eq_2] at h
    refine jv_iload_n C dX9_nextInLoop_2 rfl 1 rfl ?_
    refine jv_aload_n C dX9_nextInLoop_3 rfl 0 rfl ?_
    refine jv_getR C fa_X9_33 dX9_nextInLoop_4 h (fun b1 h => ?_)
    refine jv_getR C fa_X9_189 dX9_nextInLoop_7 h (fun b2 h => ?_)
    refine jv_getI C fa_X9_124 dX9_nextInLoop_10 h (fun v3 h => ?_)
    refine jv_icmp_ge (tgt := 42) C dX9_nextInLoop_13 (by decide) h (fun h => ?_) (fun h => ?_)
    · refine jv_bipush (v := (-2)) C dX9_nextInLoop_42 (by decide) ?_
      exact jv_iret C hr dX9_nextInLoop_44 h
    · refine jv_aload_n C dX9_nextInLoop_16 rfl 0 rfl ?_
      refine jv_aload_n C dX9_nextInLoop_17 rfl 0 rfl ?_
      refine jv_getR C fa_X9_33 dX9_nextInLoop_18 h (fun b4 h => ?_)
      refine jv_getR C fa_X9_189 dX9_nextInLoop_21 h (fun b5 h => ?_)
      refine jv_iload_n C dX9_nextInLoop_24 rfl 1 rfl ?_
      refine jv_vI0 (As := [.int x1]) C lk_X9_132 rfl dX9_nextInLoop_25 rfl rfl (by decide) (by decide) (by decide) (Nat.le_of_ble_eq_true rfl) h (fun _ _ h => ct_X6_at h) (fun v7 M6 h => ?_)
      refine jv_vI0 (As := [.int v7]) C lk_X9_303 rfl dX9_nextInLoop_28 rfl rfl (by decide) (by decide) (by decide) (Nat.le_of_ble_eq_true rfl) h (fun _ _ h => ct_X9_binFor h) (fun v9 M8 h => ?_)
      refine jv_if_lt (tgt := 36) C dX9_nextInLoop_31 (by decide) h (fun h => ?_) (fun h => ?_)
      · refine jv_iinc (v := 1) (lv' := [(1, .int (x1 + 1)), (0, .ref a0)]) C dX9_nextInLoop_36 1 rfl (by decide) (by decide) rfl ?_
        refine jv_goto (tgt := 2) C dX9_nextInLoop_39 (by decide) ?_
        refine jv_sub [1, 0] rfl ?_
        exact ih _ _ _ h
      · refine jv_iload_n C dX9_nextInLoop_34 rfl 1 rfl ?_
        exact jv_iret C hr dX9_nextInLoop_35 h
def fn_X9_nextInLoop (N : Nat) (M : Mem) (a0 : Nat) : Option (Int32 × Mem) :=
  fn_X9_nextInLoop_2 N N M a0 0
set_option maxRecDepth 100000 in
set_option maxHeartbeats 4000000 in
theorem ct_X9_nextInLoop {l : Launch} {ω : Wd} {k N : Nat} {M : Mem} {a0 : Nat} {r : Int32} {M' : Mem} (h : fn_X9_nextInLoop N M a0 = some (r, M')) : CM l ω k yX9_nextInLoop cX9_nextInLoop 2 (some .int) 3 0 0 [.ref a0] M (some (.int r)) M' := by
  refine CM.of (by decide) (Nat.le_of_ble_eq_true rfl) fun Γ hl C hr hi => ?_
  subst hl
  unfold fn_X9_nextInLoop at h
  refine jv_iconst (v := 0) C dX9_nextInLoop_0 (by decide) ?_
  refine jv_istore_n (lv' := [(1, .int 0), (0, .ref a0)]) C dX9_nextInLoop_1 rfl (by decide) rfl ?_
  refine jv_sub [1, 0] rfl ?_
  exact bk_X9_nextInLoop_2 C hr _ _ _ _ h
theorem dX9_outcomeOf_0 : decode cX9_outcomeOf 0 = .ok (.iload_n 1, 1) := by decide +kernel
theorem dX9_outcomeOf_1 : decode cX9_outcomeOf 1 = .ok (.aload_n 0, 1) := by decide +kernel
theorem dX9_outcomeOf_2 : decode cX9_outcomeOf 2 = .ok (.getfield 23, 3) := by decide +kernel
theorem dX9_outcomeOf_5 : decode cX9_outcomeOf 5 = .ok (.getfield 309, 3) := by decide +kernel
theorem dX9_outcomeOf_8 : decode cX9_outcomeOf 8 = .ok (.if_icmp .le 6, 3) := by decide +kernel
theorem dX9_outcomeOf_11 : decode cX9_outcomeOf 11 = .ok (.bipush 24, 2) := by decide +kernel
theorem dX9_outcomeOf_13 : decode cX9_outcomeOf 13 = .ok (.ireturn, 1) := by decide +kernel
theorem dX9_outcomeOf_14 : decode cX9_outcomeOf 14 = .ok (.aload_n 0, 1) := by decide +kernel
theorem dX9_outcomeOf_15 : decode cX9_outcomeOf 15 = .ok (.iload_n 1, 1) := by decide +kernel
theorem dX9_outcomeOf_16 : decode cX9_outcomeOf 16 = .ok (.iload_n 2, 1) := by decide +kernel
theorem dX9_outcomeOf_17 : decode cX9_outcomeOf 17 = .ok (.aload_n 0, 1) := by decide +kernel
theorem dX9_outcomeOf_18 : decode cX9_outcomeOf 18 = .ok (.getfield 33, 3) := by decide +kernel
theorem dX9_outcomeOf_21 : decode cX9_outcomeOf 21 = .ok (.getfield 170, 3) := by decide +kernel
theorem dX9_outcomeOf_24 : decode cX9_outcomeOf 24 = .ok (.invokevirtual 173, 3) := by decide +kernel
theorem dX9_outcomeOf_27 : decode cX9_outcomeOf 27 = .ok (.istore_n 3, 1) := by decide +kernel
theorem dX9_outcomeOf_28 : decode cX9_outcomeOf 28 = .ok (.aload_n 0, 1) := by decide +kernel
theorem dX9_outcomeOf_29 : decode cX9_outcomeOf 29 = .ok (.iload_n 3, 1) := by decide +kernel
theorem dX9_outcomeOf_30 : decode cX9_outcomeOf 30 = .ok (.invokevirtual 139, 3) := by decide +kernel
theorem dX9_outcomeOf_33 : decode cX9_outcomeOf 33 = .ok (.ifCond .ne 5, 3) := by decide +kernel
theorem dX9_outcomeOf_36 : decode cX9_outcomeOf 36 = .ok (.iload_n 3, 1) := by decide +kernel
theorem dX9_outcomeOf_37 : decode cX9_outcomeOf 37 = .ok (.ireturn, 1) := by decide +kernel
theorem dX9_outcomeOf_38 : decode cX9_outcomeOf 38 = .ok (.aload_n 0, 1) := by decide +kernel
theorem dX9_outcomeOf_39 : decode cX9_outcomeOf 39 = .ok (.iload_n 3, 1) := by decide +kernel
theorem dX9_outcomeOf_40 : decode cX9_outcomeOf 40 = .ok (.invokevirtual 312, 3) := by decide +kernel
theorem dX9_outcomeOf_43 : decode cX9_outcomeOf 43 = .ok (.ifCond .ne 6, 3) := by decide +kernel
theorem dX9_outcomeOf_46 : decode cX9_outcomeOf 46 = .ok (.bipush 23, 2) := by decide +kernel
theorem dX9_outcomeOf_48 : decode cX9_outcomeOf 48 = .ok (.ireturn, 1) := by decide +kernel
theorem dX9_outcomeOf_49 : decode cX9_outcomeOf 49 = .ok (.aload_n 0, 1) := by decide +kernel
theorem dX9_outcomeOf_50 : decode cX9_outcomeOf 50 = .ok (.iload_n 3, 1) := by decide +kernel
theorem dX9_outcomeOf_51 : decode cX9_outcomeOf 51 = .ok (.invokevirtual 303, 3) := by decide +kernel
theorem dX9_outcomeOf_54 : decode cX9_outcomeOf 54 = .ok (.istore 4, 2) := by decide +kernel
theorem dX9_outcomeOf_56 : decode cX9_outcomeOf 56 = .ok (.iload 4, 2) := by decide +kernel
theorem dX9_outcomeOf_58 : decode cX9_outcomeOf 58 = .ok (.ifCond .lt 6, 3) := by decide +kernel
theorem dX9_outcomeOf_61 : decode cX9_outcomeOf 61 = .ok (.iload 4, 2) := by decide +kernel
theorem dX9_outcomeOf_63 : decode cX9_outcomeOf 63 = .ok (.ireturn, 1) := by decide +kernel
theorem dX9_outcomeOf_64 : decode cX9_outcomeOf 64 = .ok (.aload_n 0, 1) := by decide +kernel
theorem dX9_outcomeOf_65 : decode cX9_outcomeOf 65 = .ok (.getfield 33, 3) := by decide +kernel
theorem dX9_outcomeOf_68 : decode cX9_outcomeOf 68 = .ok (.getfield 189, 3) := by decide +kernel
theorem dX9_outcomeOf_71 : decode cX9_outcomeOf 71 = .ok (.getfield 124, 3) := by decide +kernel
theorem dX9_outcomeOf_74 : decode cX9_outcomeOf 74 = .ok (.aload_n 0, 1) := by decide +kernel
theorem dX9_outcomeOf_75 : decode cX9_outcomeOf 75 = .ok (.getfield 23, 3) := by decide +kernel
theorem dX9_outcomeOf_78 : decode cX9_outcomeOf 78 = .ok (.getfield 315, 3) := by decide +kernel
theorem dX9_outcomeOf_81 : decode cX9_outcomeOf 81 = .ok (.if_icmp .ge 8, 3) := by decide +kernel
theorem dX9_outcomeOf_84 : decode cX9_outcomeOf 84 = .ok (.bipush 20, 2) := by decide +kernel
theorem dX9_outcomeOf_86 : decode cX9_outcomeOf 86 = .ok (.goto 5, 3) := by decide +kernel
theorem dX9_outcomeOf_89 : decode cX9_outcomeOf 89 = .ok (.bipush (-2), 2) := by decide +kernel
theorem dX9_outcomeOf_91 : decode cX9_outcomeOf 91 = .ok (.ireturn, 1) := by decide +kernel
def fn_X9_outcomeOf (N : Nat) (M : Mem) (a0 : Nat) (x1 : Int32) (x2 : Int32) : Option (Int32 × Mem) :=
  (mm_gR M a0 9 3).bind fun b1 =>
  (mm_gI M b1 0 4).bind fun v2 =>
  if x1 ≤ v2 then
    (mm_gR M a0 9 5).bind fun b3 =>
    (mm_gI M b3 7 2).bind fun v4 =>
    (mm_ck M a0 9).bind fun _ => mm_b2 (fn_X9_verdict N M a0 x1 x2 v4) fun v6 M5 =>
    (mm_ck M5 a0 9).bind fun _ => mm_b2 (fn_X9_isType N M5 a0 v6) fun v8 M7 =>
    if v8 = 0 then
      some (v6, M7)
    else
      (mm_ck M7 a0 9).bind fun _ => mm_b2 (fn_X9_hasBin N M7 a0 v6) fun v10 M9 =>
      if v10 = 0 then
        some (23, M9)
      else
        (mm_ck M9 a0 9).bind fun _ => mm_b2 (fn_X9_binFor N M9 a0 v6) fun v12 M11 =>
        if v12 < 0 then
          (mm_gR M11 a0 9 5).bind fun b13 =>
          (mm_gR M11 b13 7 6).bind fun b14 =>
          (mm_gI M11 b14 6 1).bind fun v15 =>
          (mm_gR M11 a0 9 3).bind fun b16 =>
          (mm_gI M11 b16 0 5).bind fun v17 =>
          if v17 ≤ v15 then
            some ((-2), M11)
          else
            some (20, M11)
        else
          some (v12, M11)
  else
    some (24, M)
set_option maxRecDepth 100000 in
set_option maxHeartbeats 4000000 in
theorem ct_X9_outcomeOf {l : Launch} {ω : Wd} {k N : Nat} {M : Mem} {a0 : Nat} {x1 : Int32} {x2 : Int32} {r : Int32} {M' : Mem} (h : fn_X9_outcomeOf N M a0 x1 x2 = some (r, M')) : CM l ω k yX9_outcomeOf cX9_outcomeOf 5 (some .int) 4 0 0 [.ref a0, .int x1, .int x2] M (some (.int r)) M' := by
  refine CM.of (by decide) (Nat.le_of_ble_eq_true rfl) fun Γ hl C hr hi => ?_
  subst hl
  unfold fn_X9_outcomeOf at h
  refine jv_iload_n C dX9_outcomeOf_0 rfl 1 rfl ?_
  refine jv_aload_n C dX9_outcomeOf_1 rfl 0 rfl ?_
  refine jv_getR C fa_X9_23 dX9_outcomeOf_2 h (fun b1 h => ?_)
  refine jv_getI C fa_X9_309 dX9_outcomeOf_5 h (fun v2 h => ?_)
  refine jv_icmp_le (tgt := 14) C dX9_outcomeOf_8 (by decide) h (fun h => ?_) (fun h => ?_)
  · refine jv_aload_n C dX9_outcomeOf_14 rfl 0 rfl ?_
    refine jv_iload_n C dX9_outcomeOf_15 rfl 1 rfl ?_
    refine jv_iload_n C dX9_outcomeOf_16 rfl 2 rfl ?_
    refine jv_aload_n C dX9_outcomeOf_17 rfl 0 rfl ?_
    refine jv_getR C fa_X9_33 dX9_outcomeOf_18 h (fun b3 h => ?_)
    refine jv_getI C fa_X9_170 dX9_outcomeOf_21 h (fun v4 h => ?_)
    refine jv_vI0 (As := [.int x1, .int x2, .int v4]) C lk_X9_173 rfl dX9_outcomeOf_24 rfl rfl (by decide) (by decide) (by decide) (Nat.le_of_ble_eq_true rfl) h (fun _ _ h => ct_X9_verdict h) (fun v6 M5 h => ?_)
    refine jv_istore_n (lv' := [(3, .int v6), (0, .ref a0), (1, .int x1), (2, .int x2)]) C dX9_outcomeOf_27 rfl (by decide) rfl ?_
    refine jv_aload_n C dX9_outcomeOf_28 rfl 1 rfl ?_
    refine jv_iload_n C dX9_outcomeOf_29 rfl 0 rfl ?_
    refine jv_vI0 (As := [.int v6]) C lk_X9_139 rfl dX9_outcomeOf_30 rfl rfl (by decide) (by decide) (by decide) (Nat.le_of_ble_eq_true rfl) h (fun _ _ h => ct_X9_isType h) (fun v8 M7 h => ?_)
    refine jv_if_ne (tgt := 38) C dX9_outcomeOf_33 (by decide) h (fun h => ?_) (fun h => ?_)
    · refine jv_aload_n C dX9_outcomeOf_38 rfl 1 rfl ?_
      refine jv_iload_n C dX9_outcomeOf_39 rfl 0 rfl ?_
      refine jv_vI0 (As := [.int v6]) C lk_X9_312 rfl dX9_outcomeOf_40 rfl rfl (by decide) (by decide) (by decide) (Nat.le_of_ble_eq_true rfl) h (fun _ _ h => ct_X9_hasBin h) (fun v10 M9 h => ?_)
      refine jv_if_ne (tgt := 49) C dX9_outcomeOf_43 (by decide) h (fun h => ?_) (fun h => ?_)
      · refine jv_aload_n C dX9_outcomeOf_49 rfl 1 rfl ?_
        refine jv_iload_n C dX9_outcomeOf_50 rfl 0 rfl ?_
        refine jv_vI0 (As := [.int v6]) C lk_X9_303 rfl dX9_outcomeOf_51 rfl rfl (by decide) (by decide) (by decide) (Nat.le_of_ble_eq_true rfl) h (fun _ _ h => ct_X9_binFor h) (fun v12 M11 h => ?_)
        refine jv_istore (lv' := [(4, .int v12), (3, .int v6), (0, .ref a0), (1, .int x1), (2, .int x2)]) C dX9_outcomeOf_54 (by decide) rfl ?_
        refine jv_iload C dX9_outcomeOf_56 0 rfl ?_
        refine jv_if_lt (tgt := 64) C dX9_outcomeOf_58 (by decide) h (fun h => ?_) (fun h => ?_)
        · refine jv_aload_n C dX9_outcomeOf_64 rfl 2 rfl ?_
          refine jv_getR C fa_X9_33 dX9_outcomeOf_65 h (fun b13 h => ?_)
          refine jv_getR C fa_X9_189 dX9_outcomeOf_68 h (fun b14 h => ?_)
          refine jv_getI C fa_X9_124 dX9_outcomeOf_71 h (fun v15 h => ?_)
          refine jv_aload_n C dX9_outcomeOf_74 rfl 2 rfl ?_
          refine jv_getR C fa_X9_23 dX9_outcomeOf_75 h (fun b16 h => ?_)
          refine jv_getI C fa_X9_315 dX9_outcomeOf_78 h (fun v17 h => ?_)
          refine jv_icmp_ge (tgt := 89) C dX9_outcomeOf_81 (by decide) h (fun h => ?_) (fun h => ?_)
          · refine jv_bipush (v := (-2)) C dX9_outcomeOf_89 (by decide) ?_
            exact jv_iret C hr dX9_outcomeOf_91 h
          · refine jv_bipush (v := 20) C dX9_outcomeOf_84 (by decide) ?_
            refine jv_goto (tgt := 91) C dX9_outcomeOf_86 (by decide) ?_
            exact jv_iret C hr dX9_outcomeOf_91 h
        · refine jv_iload C dX9_outcomeOf_61 0 rfl ?_
          exact jv_iret C hr dX9_outcomeOf_63 h
      · refine jv_bipush (v := 23) C dX9_outcomeOf_46 (by decide) ?_
        exact jv_iret C hr dX9_outcomeOf_48 h
    · refine jv_iload_n C dX9_outcomeOf_36 rfl 0 rfl ?_
      exact jv_iret C hr dX9_outcomeOf_37 h
  · refine jv_bipush (v := 24) C dX9_outcomeOf_11 (by decide) ?_
    exact jv_iret C hr dX9_outcomeOf_13 h
theorem dX9_nextOutcome_0 : decode cX9_nextOutcome 0 = .ok (.aload_n 0, 1) := by decide +kernel
theorem dX9_nextOutcome_1 : decode cX9_nextOutcome 1 = .ok (.getfield 33, 3) := by decide +kernel
theorem dX9_nextOutcome_4 : decode cX9_nextOutcome 4 = .ok (.getfield 192, 3) := by decide +kernel
theorem dX9_nextOutcome_7 : decode cX9_nextOutcome 7 = .ok (.ifCond .eq 6, 3) := by decide +kernel
theorem dX9_nextOutcome_10 : decode cX9_nextOutcome 10 = .ok (.bipush (-2), 2) := by decide +kernel
theorem dX9_nextOutcome_12 : decode cX9_nextOutcome 12 = .ok (.ireturn, 1) := by decide +kernel
theorem dX9_nextOutcome_13 : decode cX9_nextOutcome 13 = .ok (.aload_n 0, 1) := by decide +kernel
theorem dX9_nextOutcome_14 : decode cX9_nextOutcome 14 = .ok (.invokevirtual 300, 3) := by decide +kernel
theorem dX9_nextOutcome_17 : decode cX9_nextOutcome 17 = .ok (.istore_n 1, 1) := by decide +kernel
theorem dX9_nextOutcome_18 : decode cX9_nextOutcome 18 = .ok (.iload_n 1, 1) := by decide +kernel
theorem dX9_nextOutcome_19 : decode cX9_nextOutcome 19 = .ok (.bipush (-2), 2) := by decide +kernel
theorem dX9_nextOutcome_21 : decode cX9_nextOutcome 21 = .ok (.if_icmp .eq 19, 3) := by decide +kernel
theorem dX9_nextOutcome_24 : decode cX9_nextOutcome 24 = .ok (.aload_n 0, 1) := by decide +kernel
theorem dX9_nextOutcome_25 : decode cX9_nextOutcome 25 = .ok (.aload_n 0, 1) := by decide +kernel
theorem dX9_nextOutcome_26 : decode cX9_nextOutcome 26 = .ok (.getfield 33, 3) := by decide +kernel
theorem dX9_nextOutcome_29 : decode cX9_nextOutcome 29 = .ok (.getfield 189, 3) := by decide +kernel
theorem dX9_nextOutcome_32 : decode cX9_nextOutcome 32 = .ok (.iload_n 1, 1) := by decide +kernel
theorem dX9_nextOutcome_33 : decode cX9_nextOutcome 33 = .ok (.invokevirtual 132, 3) := by decide +kernel
theorem dX9_nextOutcome_36 : decode cX9_nextOutcome 36 = .ok (.invokevirtual 303, 3) := by decide +kernel
theorem dX9_nextOutcome_39 : decode cX9_nextOutcome 39 = .ok (.ireturn, 1) := by decide +kernel
theorem dX9_nextOutcome_40 : decode cX9_nextOutcome 40 = .ok (.aload_n 0, 1) := by decide +kernel
theorem dX9_nextOutcome_41 : decode cX9_nextOutcome 41 = .ok (.getfield 33, 3) := by decide +kernel
theorem dX9_nextOutcome_44 : decode cX9_nextOutcome 44 = .ok (.getfield 186, 3) := by decide +kernel
theorem dX9_nextOutcome_47 : decode cX9_nextOutcome 47 = .ok (.getfield 124, 3) := by decide +kernel
theorem dX9_nextOutcome_50 : decode cX9_nextOutcome 50 = .ok (.ifCond .ne 6, 3) := by decide +kernel
theorem dX9_nextOutcome_53 : decode cX9_nextOutcome 53 = .ok (.bipush (-2), 2) := by decide +kernel
theorem dX9_nextOutcome_55 : decode cX9_nextOutcome 55 = .ok (.ireturn, 1) := by decide +kernel
theorem dX9_nextOutcome_56 : decode cX9_nextOutcome 56 = .ok (.aload_n 0, 1) := by decide +kernel
theorem dX9_nextOutcome_57 : decode cX9_nextOutcome 57 = .ok (.getfield 33, 3) := by decide +kernel
theorem dX9_nextOutcome_60 : decode cX9_nextOutcome 60 = .ok (.getfield 186, 3) := by decide +kernel
theorem dX9_nextOutcome_63 : decode cX9_nextOutcome 63 = .ok (.iconst 0, 1) := by decide +kernel
theorem dX9_nextOutcome_64 : decode cX9_nextOutcome 64 = .ok (.invokevirtual 132, 3) := by decide +kernel
theorem dX9_nextOutcome_67 : decode cX9_nextOutcome 67 = .ok (.istore_n 2, 1) := by decide +kernel
theorem dX9_nextOutcome_68 : decode cX9_nextOutcome 68 = .ok (.aload_n 0, 1) := by decide +kernel
theorem dX9_nextOutcome_69 : decode cX9_nextOutcome 69 = .ok (.iload_n 2, 1) := by decide +kernel
theorem dX9_nextOutcome_70 : decode cX9_nextOutcome 70 = .ok (.invokestatic 257, 3) := by decide +kernel
theorem dX9_nextOutcome_73 : decode cX9_nextOutcome 73 = .ok (.iload_n 2, 1) := by decide +kernel
theorem dX9_nextOutcome_74 : decode cX9_nextOutcome 74 = .ok (.invokestatic 260, 3) := by decide +kernel
theorem dX9_nextOutcome_77 : decode cX9_nextOutcome 77 = .ok (.invokevirtual 306, 3) := by decide +kernel
theorem dX9_nextOutcome_80 : decode cX9_nextOutcome 80 = .ok (.ireturn, 1) := by decide +kernel
def fn_X9_nextOutcome (N : Nat) (M : Mem) (a0 : Nat) : Option (Int32 × Mem) :=
  (mm_gR M a0 9 5).bind fun b1 =>
  (mm_gI M b1 7 3).bind fun v2 =>
  if v2 = 0 then
    (mm_ck M a0 9).bind fun _ => mm_b2 (fn_X9_nextInLoop N M a0) fun v4 M3 =>
    if v4 = (-2) then
      (mm_gR M3 a0 9 5).bind fun b5 =>
      (mm_gR M3 b5 7 5).bind fun b6 =>
      (mm_gI M3 b6 6 1).bind fun v7 =>
      if v7 = 0 then
        some ((-2), M3)
      else
        (mm_gR M3 a0 9 5).bind fun b8 =>
        (mm_gR M3 b8 7 5).bind fun b9 =>
        (mm_ck M3 b9 6).bind fun _ => mm_b2 (fn_X6_at N M3 b9 0) fun v11 M10 =>
        mm_b2 (fn_X9_diameterOf N M10 v11) fun v13 M12 =>
        mm_b2 (fn_X9_alloyOf N M12 v11) fun v15 M14 =>
        (mm_ck M14 a0 9).bind fun _ => mm_b2 (fn_X9_outcomeOf N M14 a0 v13 v15) fun v17 M16 =>
        some (v17, M16)
    else
      (mm_gR M3 a0 9 5).bind fun b18 =>
      (mm_gR M3 b18 7 6).bind fun b19 =>
      (mm_ck M3 b19 6).bind fun _ => mm_b2 (fn_X6_at N M3 b19 v4) fun v21 M20 =>
      (mm_ck M20 a0 9).bind fun _ => mm_b2 (fn_X9_binFor N M20 a0 v21) fun v23 M22 =>
      some (v23, M22)
  else
    some ((-2), M)
set_option maxRecDepth 100000 in
set_option maxHeartbeats 4000000 in
theorem ct_X9_nextOutcome {l : Launch} {ω : Wd} {k N : Nat} {M : Mem} {a0 : Nat} {r : Int32} {M' : Mem} (h : fn_X9_nextOutcome N M a0 = some (r, M')) : CM l ω k yX9_nextOutcome cX9_nextOutcome 3 (some .int) 5 0 0 [.ref a0] M (some (.int r)) M' := by
  refine CM.of (by decide) (Nat.le_of_ble_eq_true rfl) fun Γ hl C hr hi => ?_
  subst hl
  unfold fn_X9_nextOutcome at h
  refine jv_aload_n C dX9_nextOutcome_0 rfl 0 rfl ?_
  refine jv_getR C fa_X9_33 dX9_nextOutcome_1 h (fun b1 h => ?_)
  refine jv_getI C fa_X9_192 dX9_nextOutcome_4 h (fun v2 h => ?_)
  refine jv_if_eq (tgt := 13) C dX9_nextOutcome_7 (by decide) h (fun h => ?_) (fun h => ?_)
  · refine jv_aload_n C dX9_nextOutcome_13 rfl 0 rfl ?_
    refine jv_vI0 (As := []) C lk_X9_300 rfl dX9_nextOutcome_14 rfl rfl (by decide) (by decide) (by decide) (Nat.le_of_ble_eq_true rfl) h (fun _ _ h => ct_X9_nextInLoop h) (fun v4 M3 h => ?_)
    refine jv_istore_n (lv' := [(1, .int v4), (0, .ref a0)]) C dX9_nextOutcome_17 rfl (by decide) rfl ?_
    refine jv_iload_n C dX9_nextOutcome_18 rfl 0 rfl ?_
    refine jv_bipush (v := (-2)) C dX9_nextOutcome_19 (by decide) ?_
    refine jv_icmp_eq (tgt := 40) C dX9_nextOutcome_21 (by decide) h (fun h => ?_) (fun h => ?_)
    · refine jv_aload_n C dX9_nextOutcome_40 rfl 1 rfl ?_
      refine jv_getR C fa_X9_33 dX9_nextOutcome_41 h (fun b5 h => ?_)
      refine jv_getR C fa_X9_186 dX9_nextOutcome_44 h (fun b6 h => ?_)
      refine jv_getI C fa_X9_124 dX9_nextOutcome_47 h (fun v7 h => ?_)
      refine jv_if_ne (tgt := 56) C dX9_nextOutcome_50 (by decide) h (fun h => ?_) (fun h => ?_)
      · refine jv_aload_n C dX9_nextOutcome_56 rfl 1 rfl ?_
        refine jv_getR C fa_X9_33 dX9_nextOutcome_57 h (fun b8 h => ?_)
        refine jv_getR C fa_X9_186 dX9_nextOutcome_60 h (fun b9 h => ?_)
        refine jv_iconst (v := 0) C dX9_nextOutcome_63 (by decide) ?_
        refine jv_vI0 (As := [.int 0]) C lk_X9_132 rfl dX9_nextOutcome_64 rfl rfl (by decide) (by decide) (by decide) (Nat.le_of_ble_eq_true rfl) h (fun _ _ h => ct_X6_at h) (fun v11 M10 h => ?_)
        refine jv_istore_n (lv' := [(2, .int v11), (1, .int v4), (0, .ref a0)]) C dX9_nextOutcome_67 rfl (by decide) rfl ?_
        refine jv_aload_n C dX9_nextOutcome_68 rfl 2 rfl ?_
        refine jv_iload_n C dX9_nextOutcome_69 rfl 0 rfl ?_
        refine jv_sI0 (As := [.int v11]) C lk_X9_257 dX9_nextOutcome_70 rfl rfl (by decide) (by decide) (by decide) (Nat.le_of_ble_eq_true rfl) h (fun _ _ h => ct_X9_diameterOf h) (fun v13 M12 h => ?_)
        refine jv_iload_n C dX9_nextOutcome_73 rfl 0 rfl ?_
        refine jv_sI0 (As := [.int v11]) C lk_X9_260 dX9_nextOutcome_74 rfl rfl (by decide) (by decide) (by decide) (Nat.le_of_ble_eq_true rfl) h (fun _ _ h => ct_X9_alloyOf h) (fun v15 M14 h => ?_)
        refine jv_vI0 (As := [.int v13, .int v15]) C lk_X9_306 rfl dX9_nextOutcome_77 rfl rfl (by decide) (by decide) (by decide) (Nat.le_of_ble_eq_true rfl) h (fun _ _ h => ct_X9_outcomeOf h) (fun v17 M16 h => ?_)
        exact jv_iret C hr dX9_nextOutcome_80 h
      · refine jv_bipush (v := (-2)) C dX9_nextOutcome_53 (by decide) ?_
        exact jv_iret C hr dX9_nextOutcome_55 h
    · refine jv_aload_n C dX9_nextOutcome_24 rfl 1 rfl ?_
      refine jv_aload_n C dX9_nextOutcome_25 rfl 1 rfl ?_
      refine jv_getR C fa_X9_33 dX9_nextOutcome_26 h (fun b18 h => ?_)
      refine jv_getR C fa_X9_189 dX9_nextOutcome_29 h (fun b19 h => ?_)
      refine jv_iload_n C dX9_nextOutcome_32 rfl 0 rfl ?_
      refine jv_vI0 (As := [.int v4]) C lk_X9_132 rfl dX9_nextOutcome_33 rfl rfl (by decide) (by decide) (by decide) (Nat.le_of_ble_eq_true rfl) h (fun _ _ h => ct_X6_at h) (fun v21 M20 h => ?_)
      refine jv_vI0 (As := [.int v21]) C lk_X9_303 rfl dX9_nextOutcome_36 rfl rfl (by decide) (by decide) (by decide) (Nat.le_of_ble_eq_true rfl) h (fun _ _ h => ct_X9_binFor h) (fun v23 M22 h => ?_)
      exact jv_iret C hr dX9_nextOutcome_39 h
  · refine jv_bipush (v := (-2)) C dX9_nextOutcome_10 (by decide) ?_
    exact jv_iret C hr dX9_nextOutcome_12 h
theorem dX9_isStopped_0 : decode cX9_isStopped 0 = .ok (.aload_n 0, 1) := by decide +kernel
theorem dX9_isStopped_1 : decode cX9_isStopped 1 = .ok (.getfield 33, 3) := by decide +kernel
theorem dX9_isStopped_4 : decode cX9_isStopped 4 = .ok (.getfield 192, 3) := by decide +kernel
theorem dX9_isStopped_7 : decode cX9_isStopped 7 = .ok (.ifCond .ne 29, 3) := by decide +kernel
theorem dX9_isStopped_10 : decode cX9_isStopped 10 = .ok (.aload_n 0, 1) := by decide +kernel
theorem dX9_isStopped_11 : decode cX9_isStopped 11 = .ok (.getfield 33, 3) := by decide +kernel
theorem dX9_isStopped_14 : decode cX9_isStopped 14 = .ok (.getfield 186, 3) := by decide +kernel
theorem dX9_isStopped_17 : decode cX9_isStopped 17 = .ok (.getfield 124, 3) := by decide +kernel
theorem dX9_isStopped_20 : decode cX9_isStopped 20 = .ok (.ifCond .le 16, 3) := by decide +kernel
theorem dX9_isStopped_23 : decode cX9_isStopped 23 = .ok (.aload_n 0, 1) := by decide +kernel
theorem dX9_isStopped_24 : decode cX9_isStopped 24 = .ok (.invokevirtual 196, 3) := by decide +kernel
theorem dX9_isStopped_27 : decode cX9_isStopped 27 = .ok (.bipush (-2), 2) := by decide +kernel
theorem dX9_isStopped_29 : decode cX9_isStopped 29 = .ok (.if_icmp .ne 7, 3) := by decide +kernel
theorem dX9_isStopped_32 : decode cX9_isStopped 32 = .ok (.iconst 1, 1) := by decide +kernel
theorem dX9_isStopped_33 : decode cX9_isStopped 33 = .ok (.goto 4, 3) := by decide +kernel
theorem dX9_isStopped_36 : decode cX9_isStopped 36 = .ok (.iconst 0, 1) := by decide +kernel
theorem dX9_isStopped_37 : decode cX9_isStopped 37 = .ok (.ireturn, 1) := by decide +kernel
def fn_X9_isStopped (N : Nat) (M : Mem) (a0 : Nat) : Option (Int32 × Mem) :=
  (mm_gR M a0 9 5).bind fun b1 =>
  (mm_gI M b1 7 3).bind fun v2 =>
  if v2 = 0 then
    (mm_gR M a0 9 5).bind fun b3 =>
    (mm_gR M b3 7 5).bind fun b4 =>
    (mm_gI M b4 6 1).bind fun v5 =>
    if v5 ≤ 0 then
      some (0, M)
    else
      (mm_ck M a0 9).bind fun _ => mm_b2 (fn_X9_nextOutcome N M a0) fun v7 M6 =>
      if v7 = (-2) then
        some (1, M6)
      else
        some (0, M6)
  else
    some (0, M)
set_option maxRecDepth 100000 in
set_option maxHeartbeats 4000000 in
theorem ct_X9_isStopped {l : Launch} {ω : Wd} {k N : Nat} {M : Mem} {a0 : Nat} {r : Int32} {M' : Mem} (h : fn_X9_isStopped N M a0 = some (r, M')) : CM l ω k yX9_isStopped cX9_isStopped 1 (some .boolean) 6 0 0 [.ref a0] M (some (.int r)) M' := by
  refine CM.of (by decide) (Nat.le_of_ble_eq_true rfl) fun Γ hl C hr hi => ?_
  subst hl
  unfold fn_X9_isStopped at h
  refine jv_aload_n C dX9_isStopped_0 rfl 0 rfl ?_
  refine jv_getR C fa_X9_33 dX9_isStopped_1 h (fun b1 h => ?_)
  refine jv_getI C fa_X9_192 dX9_isStopped_4 h (fun v2 h => ?_)
  refine jv_if_ne (tgt := 36) C dX9_isStopped_7 (by decide) h (fun h => ?_) (fun h => ?_)
  · refine jv_iconst (v := 0) C dX9_isStopped_36 (by decide) ?_
    exact jv_zretc C hr (Or.inl rfl) dX9_isStopped_37 h
  · refine jv_aload_n C dX9_isStopped_10 rfl 0 rfl ?_
    refine jv_getR C fa_X9_33 dX9_isStopped_11 h (fun b3 h => ?_)
    refine jv_getR C fa_X9_186 dX9_isStopped_14 h (fun b4 h => ?_)
    refine jv_getI C fa_X9_124 dX9_isStopped_17 h (fun v5 h => ?_)
    refine jv_if_le (tgt := 36) C dX9_isStopped_20 (by decide) h (fun h => ?_) (fun h => ?_)
    · refine jv_iconst (v := 0) C dX9_isStopped_36 (by decide) ?_
      exact jv_zretc C hr (Or.inl rfl) dX9_isStopped_37 h
    · refine jv_aload_n C dX9_isStopped_23 rfl 0 rfl ?_
      refine jv_vI0 (As := []) C lk_X9_196 rfl dX9_isStopped_24 rfl rfl (by decide) (by decide) (by decide) (Nat.le_of_ble_eq_true rfl) h (fun _ _ h => ct_X9_nextOutcome h) (fun v7 M6 h => ?_)
      refine jv_bipush (v := (-2)) C dX9_isStopped_27 (by decide) ?_
      refine jv_icmp_ne (tgt := 36) C dX9_isStopped_29 (by decide) h (fun h => ?_) (fun h => ?_)
      · refine jv_iconst (v := 0) C dX9_isStopped_36 (by decide) ?_
        exact jv_zretc C hr (Or.inl rfl) dX9_isStopped_37 h
      · refine jv_iconst (v := 1) C dX9_isStopped_32 (by decide) ?_
        refine jv_goto (tgt := 37) C dX9_isStopped_33 (by decide) ?_
        exact jv_zretc C hr (Or.inr rfl) dX9_isStopped_37 h
theorem dX9_loopSize_0 : decode cX9_loopSize 0 = .ok (.aload_n 0, 1) := by decide +kernel
theorem dX9_loopSize_1 : decode cX9_loopSize 1 = .ok (.getfield 33, 3) := by decide +kernel
theorem dX9_loopSize_4 : decode cX9_loopSize 4 = .ok (.getfield 189, 3) := by decide +kernel
theorem dX9_loopSize_7 : decode cX9_loopSize 7 = .ok (.getfield 124, 3) := by decide +kernel
theorem dX9_loopSize_10 : decode cX9_loopSize 10 = .ok (.ireturn, 1) := by decide +kernel
def fn_X9_loopSize (N : Nat) (M : Mem) (a0 : Nat) : Option (Int32 × Mem) :=
  (mm_gR M a0 9 5).bind fun b1 =>
  (mm_gR M b1 7 6).bind fun b2 =>
  (mm_gI M b2 6 1).bind fun v3 =>
  some (v3, M)
set_option maxRecDepth 100000 in
set_option maxHeartbeats 4000000 in
theorem ct_X9_loopSize {l : Launch} {ω : Wd} {k N : Nat} {M : Mem} {a0 : Nat} {r : Int32} {M' : Mem} (h : fn_X9_loopSize N M a0 = some (r, M')) : CM l ω k yX9_loopSize cX9_loopSize 1 (some .int) 0 0 0 [.ref a0] M (some (.int r)) M' := by
  refine CM.of (by decide) (Nat.le_of_ble_eq_true rfl) fun Γ hl C hr hi => ?_
  subst hl
  unfold fn_X9_loopSize at h
  refine jv_aload_n C dX9_loopSize_0 rfl 0 rfl ?_
  refine jv_getR C fa_X9_33 dX9_loopSize_1 h (fun b1 h => ?_)
  refine jv_getR C fa_X9_189 dX9_loopSize_4 h (fun b2 h => ?_)
  refine jv_getI C fa_X9_124 dX9_loopSize_7 h (fun v3 h => ?_)
  exact jv_iret C hr dX9_loopSize_10 h
theorem dX9_loopType_0 : decode cX9_loopType 0 = .ok (.aload_n 0, 1) := by decide +kernel
theorem dX9_loopType_1 : decode cX9_loopType 1 = .ok (.getfield 33, 3) := by decide +kernel
theorem dX9_loopType_4 : decode cX9_loopType 4 = .ok (.getfield 189, 3) := by decide +kernel
theorem dX9_loopType_7 : decode cX9_loopType 7 = .ok (.iload_n 1, 1) := by decide +kernel
theorem dX9_loopType_8 : decode cX9_loopType 8 = .ok (.invokevirtual 132, 3) := by decide +kernel
theorem dX9_loopType_11 : decode cX9_loopType 11 = .ok (.ireturn, 1) := by decide +kernel
def fn_X9_loopType (N : Nat) (M : Mem) (a0 : Nat) (x1 : Int32) : Option (Int32 × Mem) :=
  (mm_gR M a0 9 5).bind fun b1 =>
  (mm_gR M b1 7 6).bind fun b2 =>
  (mm_ck M b2 6).bind fun _ => mm_b2 (fn_X6_at N M b2 x1) fun v4 M3 =>
  some (v4, M3)
set_option maxRecDepth 100000 in
set_option maxHeartbeats 4000000 in
theorem ct_X9_loopType {l : Launch} {ω : Wd} {k N : Nat} {M : Mem} {a0 : Nat} {x1 : Int32} {r : Int32} {M' : Mem} (h : fn_X9_loopType N M a0 x1 = some (r, M')) : CM l ω k yX9_loopType cX9_loopType 2 (some .int) 1 0 0 [.ref a0, .int x1] M (some (.int r)) M' := by
  refine CM.of (by decide) (Nat.le_of_ble_eq_true rfl) fun Γ hl C hr hi => ?_
  subst hl
  unfold fn_X9_loopType at h
  refine jv_aload_n C dX9_loopType_0 rfl 0 rfl ?_
  refine jv_getR C fa_X9_33 dX9_loopType_1 h (fun b1 h => ?_)
  refine jv_getR C fa_X9_189 dX9_loopType_4 h (fun b2 h => ?_)
  refine jv_iload_n C dX9_loopType_7 rfl 1 rfl ?_
  refine jv_vI0 (As := [.int x1]) C lk_X9_132 rfl dX9_loopType_8 rfl rfl (by decide) (by decide) (by decide) (Nat.le_of_ble_eq_true rfl) h (fun _ _ h => ct_X6_at h) (fun v4 M3 h => ?_)
  exact jv_iret C hr dX9_loopType_11 h
theorem dX9_margin_0 : decode cX9_margin 0 = .ok (.aload_n 0, 1) := by decide +kernel
theorem dX9_margin_1 : decode cX9_margin 1 = .ok (.getfield 33, 3) := by decide +kernel
theorem dX9_margin_4 : decode cX9_margin 4 = .ok (.getfield 170, 3) := by decide +kernel
theorem dX9_margin_7 : decode cX9_margin 7 = .ok (.ireturn, 1) := by decide +kernel
def fn_X9_margin (N : Nat) (M : Mem) (a0 : Nat) : Option (Int32 × Mem) :=
  (mm_gR M a0 9 5).bind fun b1 =>
  (mm_gI M b1 7 2).bind fun v2 =>
  some (v2, M)
set_option maxRecDepth 100000 in
set_option maxHeartbeats 4000000 in
theorem ct_X9_margin {l : Launch} {ω : Wd} {k N : Nat} {M : Mem} {a0 : Nat} {r : Int32} {M' : Mem} (h : fn_X9_margin N M a0 = some (r, M')) : CM l ω k yX9_margin cX9_margin 1 (some .int) 0 0 0 [.ref a0] M (some (.int r)) M' := by
  refine CM.of (by decide) (Nat.le_of_ble_eq_true rfl) fun Γ hl C hr hi => ?_
  subst hl
  unfold fn_X9_margin at h
  refine jv_aload_n C dX9_margin_0 rfl 0 rfl ?_
  refine jv_getR C fa_X9_33 dX9_margin_1 h (fun b1 h => ?_)
  refine jv_getI C fa_X9_170 dX9_margin_4 h (fun v2 h => ?_)
  exact jv_iret C hr dX9_margin_7 h
theorem dX9_move_0 : decode cX9_move 0 = .ok (.aload_n 0, 1) := by decide +kernel
theorem dX9_move_1 : decode cX9_move 1 = .ok (.invokevirtual 300, 3) := by decide +kernel
theorem dX9_move_4 : decode cX9_move 4 = .ok (.istore_n 2, 1) := by decide +kernel
theorem dX9_move_5 : decode cX9_move 5 = .ok (.iload_n 2, 1) := by decide +kernel
theorem dX9_move_6 : decode cX9_move 6 = .ok (.bipush (-2), 2) := by decide +kernel
theorem dX9_move_8 : decode cX9_move 8 = .ok (.if_icmp .eq 18, 3) := by decide +kernel
theorem dX9_move_11 : decode cX9_move 11 = .ok (.aload_n 0, 1) := by decide +kernel
theorem dX9_move_12 : decode cX9_move 12 = .ok (.getfield 33, 3) := by decide +kernel
theorem dX9_move_15 : decode cX9_move 15 = .ok (.getfield 189, 3) := by decide +kernel
theorem dX9_move_18 : decode cX9_move 18 = .ok (.iload_n 2, 1) := by decide +kernel
theorem dX9_move_19 : decode cX9_move 19 = .ok (.invokevirtual 318, 3) := by decide +kernel
theorem dX9_move_22 : decode cX9_move 22 = .ok (.pop, 1) := by decide +kernel
theorem dX9_move_23 : decode cX9_move 23 = .ok (.goto 50, 3) := by decide +kernel
theorem dX9_move_26 : decode cX9_move 26 = .ok (.aload_n 0, 1) := by decide +kernel
theorem dX9_move_27 : decode cX9_move 27 = .ok (.getfield 33, 3) := by decide +kernel
theorem dX9_move_30 : decode cX9_move 30 = .ok (.getfield 186, 3) := by decide +kernel
theorem dX9_move_33 : decode cX9_move 33 = .ok (.iconst 0, 1) := by decide +kernel
theorem dX9_move_34 : decode cX9_move 34 = .ok (.invokevirtual 318, 3) := by decide +kernel
theorem dX9_move_37 : decode cX9_move 37 = .ok (.istore_n 3, 1) := by decide +kernel
theorem dX9_move_38 : decode cX9_move 38 = .ok (.iload_n 1, 1) := by decide +kernel
theorem dX9_move_39 : decode cX9_move 39 = .ok (.bipush 20, 2) := by decide +kernel
theorem dX9_move_41 : decode cX9_move 41 = .ok (.if_icmp .ne 32, 3) := by decide +kernel
theorem dX9_move_44 : decode cX9_move 44 = .ok (.aload_n 0, 1) := by decide +kernel
theorem dX9_move_45 : decode cX9_move 45 = .ok (.getfield 33, 3) := by decide +kernel
theorem dX9_move_48 : decode cX9_move 48 = .ok (.getfield 189, 3) := by decide +kernel
theorem dX9_move_51 : decode cX9_move 51 = .ok (.aload_n 0, 1) := by decide +kernel
theorem dX9_move_52 : decode cX9_move 52 = .ok (.iload_n 3, 1) := by decide +kernel
theorem dX9_move_53 : decode cX9_move 53 = .ok (.invokestatic 257, 3) := by decide +kernel
theorem dX9_move_56 : decode cX9_move 56 = .ok (.iload_n 3, 1) := by decide +kernel
theorem dX9_move_57 : decode cX9_move 57 = .ok (.invokestatic 260, 3) := by decide +kernel
theorem dX9_move_60 : decode cX9_move 60 = .ok (.aload_n 0, 1) := by decide +kernel
theorem dX9_move_61 : decode cX9_move 61 = .ok (.getfield 33, 3) := by decide +kernel
theorem dX9_move_64 : decode cX9_move 64 = .ok (.getfield 170, 3) := by decide +kernel
theorem dX9_move_67 : decode cX9_move 67 = .ok (.invokevirtual 173, 3) := by decide +kernel
theorem dX9_move_70 : decode cX9_move 70 = .ok (.invokevirtual 295, 3) := by decide +kernel
theorem dX9_move_73 : decode cX9_move 73 = .ok (.iload_n 1, 1) := by decide +kernel
theorem dX9_move_74 : decode cX9_move 74 = .ok (.bipush 24, 2) := by decide +kernel
theorem dX9_move_76 : decode cX9_move 76 = .ok (.if_icmp .ne 14, 3) := by decide +kernel
theorem dX9_move_79 : decode cX9_move 79 = .ok (.aload_n 0, 1) := by decide +kernel
theorem dX9_move_80 : decode cX9_move 80 = .ok (.getfield 33, 3) := by decide +kernel
theorem dX9_move_83 : decode cX9_move 83 = .ok (.iconst 1, 1) := by decide +kernel
theorem dX9_move_84 : decode cX9_move 84 = .ok (.putfield 192, 3) := by decide +kernel
theorem dX9_move_87 : decode cX9_move 87 = .ok (.goto 45, 3) := by decide +kernel
theorem dX9_move_90 : decode cX9_move 90 = .ok (.iload_n 1, 1) := by decide +kernel
theorem dX9_move_91 : decode cX9_move 91 = .ok (.bipush 20, 2) := by decide +kernel
theorem dX9_move_93 : decode cX9_move 93 = .ok (.if_icmp .le 21, 3) := by decide +kernel
theorem dX9_move_96 : decode cX9_move 96 = .ok (.aload_n 0, 1) := by decide +kernel
theorem dX9_move_97 : decode cX9_move 97 = .ok (.getfield 33, 3) := by decide +kernel
theorem dX9_move_100 : decode cX9_move 100 = .ok (.getfield 202, 3) := by decide +kernel
theorem dX9_move_103 : decode cX9_move 103 = .ok (.iload_n 1, 1) := by decide +kernel
theorem dX9_move_104 : decode cX9_move 104 = .ok (.invokestatic 205, 3) := by decide +kernel
theorem dX9_move_107 : decode cX9_move 107 = .ok (.iconst 1, 1) := by decide +kernel
theorem dX9_move_108 : decode cX9_move 108 = .ok (.invokevirtual 321, 3) := by decide +kernel
theorem dX9_move_111 : decode cX9_move 111 = .ok (.goto 21, 3) := by decide +kernel
theorem dX9_move_114 : decode cX9_move 114 = .ok (.iload_n 1, 1) := by decide +kernel
theorem dX9_move_115 : decode cX9_move 115 = .ok (.bipush 20, 2) := by decide +kernel
theorem dX9_move_117 : decode cX9_move 117 = .ok (.if_icmp .ge 15, 3) := by decide +kernel
theorem dX9_move_120 : decode cX9_move 120 = .ok (.aload_n 0, 1) := by decide +kernel
theorem dX9_move_121 : decode cX9_move 121 = .ok (.getfield 33, 3) := by decide +kernel
theorem dX9_move_124 : decode cX9_move 124 = .ok (.getfield 199, 3) := by decide +kernel
theorem dX9_move_127 : decode cX9_move 127 = .ok (.iload_n 1, 1) := by decide +kernel
theorem dX9_move_128 : decode cX9_move 128 = .ok (.iconst 1, 1) := by decide +kernel
theorem dX9_move_129 : decode cX9_move 129 = .ok (.invokevirtual 321, 3) := by decide +kernel
theorem dX9_move_132 : decode cX9_move 132 = .ok (.aload_n 0, 1) := by decide +kernel
theorem dX9_move_133 : decode cX9_move 133 = .ok (.getfield 33, 3) := by decide +kernel
theorem dX9_move_136 : decode cX9_move 136 = .ok (.dup, 1) := by decide +kernel
theorem dX9_move_137 : decode cX9_move 137 = .ok (.getfield 208, 3) := by decide +kernel
theorem dX9_move_140 : decode cX9_move 140 = .ok (.iconst 1, 1) := by decide +kernel
theorem dX9_move_141 : decode cX9_move 141 = .ok (.iadd, 1) := by decide +kernel
theorem dX9_move_142 : decode cX9_move 142 = .ok (.putfield 208, 3) := by decide +kernel
theorem dX9_move_145 : decode cX9_move 145 = .ok (.aload_n 0, 1) := by decide +kernel
theorem dX9_move_146 : decode cX9_move 146 = .ok (.getfield 33, 3) := by decide +kernel
theorem dX9_move_149 : decode cX9_move 149 = .ok (.iload_n 1, 1) := by decide +kernel
theorem dX9_move_150 : decode cX9_move 150 = .ok (.invokevirtual 324, 3) := by decide +kernel
theorem dX9_move_153 : decode cX9_move 153 = .ok (.return_, 1) := by decide +kernel
def fn_X9_move_132 (N : Nat) (M : Mem) (a0 : Nat) (x1 : Int32) : Option (Unit × Mem) :=
  (mm_gR M a0 9 5).bind fun b1 =>
  (mm_gI M b1 7 4).bind fun v2 =>
  (mm_pV M b1 7 4 (.int (v2 + 1))).bind fun M3 =>
  (mm_gR M3 a0 9 5).bind fun b4 =>
  (mm_ck M3 b4 7).bind fun _ => mm_b2 (fn_X7_addRecord N M3 b4 x1) fun _ M5 =>
  some ((), M5)
set_option maxRecDepth 100000 in
set_option maxHeartbeats 4000000 in
theorem bk_X9_move_132 {Γ : Gm} {ω : Wd} {k N : Nat} {r : Unit} {M' : Mem} (C : Cx Γ cX9_move 4 RX9 ω 4 0 0) (hr : Γ.meth.sig.returnType = none) (M : Mem) (a0 : Nat) (x1 : Int32) (h : fn_X9_move_132 N M a0 x1 = some (r, M')) : JJ Γ (QF Γ ω k 0 0 none M') 4 ω k M 0 0 132 [(0, .ref a0), (1, .int x1)] [] := by
  unfold fn_X9_move_132 at h
  refine jv_aload_n C dX9_move_132 rfl 0 rfl ?_
  refine jv_getR C fa_X9_33 dX9_move_133 h (fun b1 h => ?_)
  refine jv_dup C dX9_move_136 rfl ?_
  refine jv_getI C fa_X9_208 dX9_move_137 h (fun v2 h => ?_)
  refine jv_iconst (v := 1) C dX9_move_140 (by decide) ?_
  refine jv_iadd C dX9_move_141 ?_
  refine jv_putI C fp_X9_208 dX9_move_142 h (fun M3 h => ?_)
  refine jv_aload_n C dX9_move_145 rfl 0 rfl ?_
  refine jv_getR C fa_X9_33 dX9_move_146 h (fun b4 h => ?_)
  refine jv_iload_n C dX9_move_149 rfl 1 rfl ?_
  refine jv_vV0 (As := [.int x1]) C lk_X9_324 rfl dX9_move_150 rfl rfl (by decide) (by decide) (by decide) (Nat.le_of_ble_eq_true rfl) h (fun _ _ h => ct_X7_addRecord h) (fun _ M5 h => ?_)
  exact jv_vret C hr dX9_move_153 h
def fn_X9_move_73 (N : Nat) (M : Mem) (a0 : Nat) (x1 : Int32) : Option (Unit × Mem) :=
  if x1 = 24 then
    (mm_gR M a0 9 5).bind fun b9 =>
    (mm_pZ M b9 7 3 1).bind fun M10 =>
    fn_X9_move_132 N M10 a0 x1
  else
    if x1 ≤ 20 then
      if 20 ≤ x1 then
        fn_X9_move_132 N M a0 x1
      else
        (mm_gR M a0 9 5).bind fun b1 =>
        (mm_gR M b1 7 7).bind fun b2 =>
        (mm_ck M b2 6).bind fun _ => mm_b2 (fn_X6_increase N M b2 x1 1) fun _ M3 =>
        fn_X9_move_132 N M3 a0 x1
    else
      (mm_gR M a0 9 5).bind fun b4 =>
      (mm_gR M b4 7 8).bind fun b5 =>
      mm_b2 (fn_X9_rejectIndex N M x1) fun v7 M6 =>
      (mm_ck M6 b5 6).bind fun _ => mm_b2 (fn_X6_increase N M6 b5 v7 1) fun _ M8 =>
      fn_X9_move_132 N M8 a0 x1
set_option maxRecDepth 100000 in
set_option maxHeartbeats 4000000 in
theorem bk_X9_move_73 {Γ : Gm} {ω : Wd} {k N : Nat} {r : Unit} {M' : Mem} (C : Cx Γ cX9_move 4 RX9 ω 4 0 0) (hr : Γ.meth.sig.returnType = none) (M : Mem) (a0 : Nat) (x1 : Int32) (h : fn_X9_move_73 N M a0 x1 = some (r, M')) : JJ Γ (QF Γ ω k 0 0 none M') 4 ω k M 0 0 73 [(0, .ref a0), (1, .int x1)] [] := by
  unfold fn_X9_move_73 at h
  refine jv_iload_n C dX9_move_73 rfl 1 rfl ?_
  refine jv_bipush (v := 24) C dX9_move_74 (by decide) ?_
  refine jv_icmp_ne (tgt := 90) C dX9_move_76 (by decide) h (fun h => ?_) (fun h => ?_)
  · refine jv_iload_n C dX9_move_90 rfl 1 rfl ?_
    refine jv_bipush (v := 20) C dX9_move_91 (by decide) ?_
    refine jv_icmp_le (tgt := 114) C dX9_move_93 (by decide) h (fun h => ?_) (fun h => ?_)
    · refine jv_iload_n C dX9_move_114 rfl 1 rfl ?_
      refine jv_bipush (v := 20) C dX9_move_115 (by decide) ?_
      refine jv_icmp_ge (tgt := 132) C dX9_move_117 (by decide) h (fun h => ?_) (fun h => ?_)
      · exact bk_X9_move_132 C hr _ _ _ h
      · refine jv_aload_n C dX9_move_120 rfl 0 rfl ?_
        refine jv_getR C fa_X9_33 dX9_move_121 h (fun b1 h => ?_)
        refine jv_getR C fa_X9_199 dX9_move_124 h (fun b2 h => ?_)
        refine jv_iload_n C dX9_move_127 rfl 1 rfl ?_
        refine jv_iconst (v := 1) C dX9_move_128 (by decide) ?_
        refine jv_vV0 (As := [.int x1, .int 1]) C lk_X9_321 rfl dX9_move_129 rfl rfl (by decide) (by decide) (by decide) (Nat.le_of_ble_eq_true rfl) h (fun _ _ h => ct_X6_increase h) (fun _ M3 h => ?_)
        exact bk_X9_move_132 C hr _ _ _ h
    · refine jv_aload_n C dX9_move_96 rfl 0 rfl ?_
      refine jv_getR C fa_X9_33 dX9_move_97 h (fun b4 h => ?_)
      refine jv_getR C fa_X9_202 dX9_move_100 h (fun b5 h => ?_)
      refine jv_iload_n C dX9_move_103 rfl 1 rfl ?_
      refine jv_sI0 (As := [.int x1]) C lk_X9_205 dX9_move_104 rfl rfl (by decide) (by decide) (by decide) (Nat.le_of_ble_eq_true rfl) h (fun _ _ h => ct_X9_rejectIndex h) (fun v7 M6 h => ?_)
      refine jv_iconst (v := 1) C dX9_move_107 (by decide) ?_
      refine jv_vV0 (As := [.int v7, .int 1]) C lk_X9_321 rfl dX9_move_108 rfl rfl (by decide) (by decide) (by decide) (Nat.le_of_ble_eq_true rfl) h (fun _ _ h => ct_X6_increase h) (fun _ M8 h => ?_)
      refine jv_goto (tgt := 132) C dX9_move_111 (by decide) ?_
      exact bk_X9_move_132 C hr _ _ _ h
  · refine jv_aload_n C dX9_move_79 rfl 0 rfl ?_
    refine jv_getR C fa_X9_33 dX9_move_80 h (fun b9 h => ?_)
    refine jv_iconst (v := 1) C dX9_move_83 (by decide) ?_
    refine jv_putZ C fp_X9_192 dX9_move_84 h (fun M10 h => ?_)
    refine jv_goto (tgt := 132) C dX9_move_87 (by decide) ?_
    exact bk_X9_move_132 C hr _ _ _ h
def fn_X9_move (N : Nat) (M : Mem) (a0 : Nat) (x1 : Int32) : Option (Unit × Mem) :=
  (mm_ck M a0 9).bind fun _ => mm_b2 (fn_X9_nextInLoop N M a0) fun v2 M1 =>
  if v2 = (-2) then
    (mm_gR M1 a0 9 5).bind fun b3 =>
    (mm_gR M1 b3 7 5).bind fun b4 =>
    (mm_ck M1 b4 6).bind fun _ => mm_b2 (fn_X6_removeAt N M1 b4 0) fun v6 M5 =>
    if x1 = 20 then
      (mm_gR M5 a0 9 5).bind fun b7 =>
      (mm_gR M5 b7 7 6).bind fun b8 =>
      mm_b2 (fn_X9_diameterOf N M5 v6) fun v10 M9 =>
      mm_b2 (fn_X9_alloyOf N M9 v6) fun v12 M11 =>
      (mm_gR M11 a0 9 5).bind fun b13 =>
      (mm_gI M11 b13 7 2).bind fun v14 =>
      (mm_ck M11 a0 9).bind fun _ => mm_b2 (fn_X9_verdict N M11 a0 v10 v12 v14) fun v16 M15 =>
      (mm_ck M15 b8 6).bind fun _ => mm_b2 (fn_X6_add N M15 b8 v16) fun _ M17 =>
      fn_X9_move_73 N M17 a0 x1
    else
      fn_X9_move_73 N M5 a0 x1
  else
    (mm_gR M1 a0 9 5).bind fun b18 =>
    (mm_gR M1 b18 7 6).bind fun b19 =>
    (mm_ck M1 b19 6).bind fun _ => mm_b2 (fn_X6_removeAt N M1 b19 v2) fun v21 M20 =>
    fn_X9_move_73 N M20 a0 x1
set_option maxRecDepth 100000 in
set_option maxHeartbeats 4000000 in
theorem ct_X9_move {l : Launch} {ω : Wd} {k N : Nat} {M : Mem} {a0 : Nat} {x1 : Int32} {r : Unit} {M' : Mem} (h : fn_X9_move N M a0 x1 = some (r, M')) : CM l ω k yX9_move cX9_move 4 none 4 0 0 [.ref a0, .int x1] M none M' := by
  refine CM.of (by decide) (Nat.le_of_ble_eq_true rfl) fun Γ hl C hr hi => ?_
  subst hl
  unfold fn_X9_move at h
  refine jv_aload_n C dX9_move_0 rfl 0 rfl ?_
  refine jv_vI0 (As := []) C lk_X9_300 rfl dX9_move_1 rfl rfl (by decide) (by decide) (by decide) (Nat.le_of_ble_eq_true rfl) h (fun _ _ h => ct_X9_nextInLoop h) (fun v2 M1 h => ?_)
  refine jv_istore_n (lv' := [(2, .int v2), (0, .ref a0), (1, .int x1)]) C dX9_move_4 rfl (by decide) rfl ?_
  refine jv_iload_n C dX9_move_5 rfl 0 rfl ?_
  refine jv_bipush (v := (-2)) C dX9_move_6 (by decide) ?_
  refine jv_icmp_eq (tgt := 26) C dX9_move_8 (by decide) h (fun h => ?_) (fun h => ?_)
  · refine jv_aload_n C dX9_move_26 rfl 1 rfl ?_
    refine jv_getR C fa_X9_33 dX9_move_27 h (fun b3 h => ?_)
    refine jv_getR C fa_X9_186 dX9_move_30 h (fun b4 h => ?_)
    refine jv_iconst (v := 0) C dX9_move_33 (by decide) ?_
    refine jv_vI0 (As := [.int 0]) C lk_X9_318 rfl dX9_move_34 rfl rfl (by decide) (by decide) (by decide) (Nat.le_of_ble_eq_true rfl) h (fun _ _ h => ct_X6_removeAt h) (fun v6 M5 h => ?_)
    refine jv_istore_n (lv' := [(3, .int v6), (2, .int v2), (0, .ref a0), (1, .int x1)]) C dX9_move_37 rfl (by decide) rfl ?_
    refine jv_iload_n C dX9_move_38 rfl 3 rfl ?_
    refine jv_bipush (v := 20) C dX9_move_39 (by decide) ?_
    refine jv_icmp_ne (tgt := 73) C dX9_move_41 (by decide) h (fun h => ?_) (fun h => ?_)
    · refine jv_sub [2, 3] rfl ?_
      exact bk_X9_move_73 C hr _ _ _ h
    · refine jv_aload_n C dX9_move_44 rfl 2 rfl ?_
      refine jv_getR C fa_X9_33 dX9_move_45 h (fun b7 h => ?_)
      refine jv_getR C fa_X9_189 dX9_move_48 h (fun b8 h => ?_)
      refine jv_aload_n C dX9_move_51 rfl 2 rfl ?_
      refine jv_iload_n C dX9_move_52 rfl 0 rfl ?_
      refine jv_sI0 (As := [.int v6]) C lk_X9_257 dX9_move_53 rfl rfl (by decide) (by decide) (by decide) (Nat.le_of_ble_eq_true rfl) h (fun _ _ h => ct_X9_diameterOf h) (fun v10 M9 h => ?_)
      refine jv_iload_n C dX9_move_56 rfl 0 rfl ?_
      refine jv_sI0 (As := [.int v6]) C lk_X9_260 dX9_move_57 rfl rfl (by decide) (by decide) (by decide) (Nat.le_of_ble_eq_true rfl) h (fun _ _ h => ct_X9_alloyOf h) (fun v12 M11 h => ?_)
      refine jv_aload_n C dX9_move_60 rfl 2 rfl ?_
      refine jv_getR C fa_X9_33 dX9_move_61 h (fun b13 h => ?_)
      refine jv_getI C fa_X9_170 dX9_move_64 h (fun v14 h => ?_)
      refine jv_vI0 (As := [.int v10, .int v12, .int v14]) C lk_X9_173 rfl dX9_move_67 rfl rfl (by decide) (by decide) (by decide) (Nat.le_of_ble_eq_true rfl) h (fun _ _ h => ct_X9_verdict h) (fun v16 M15 h => ?_)
      refine jv_vV0 (As := [.int v16]) C lk_X9_295 rfl dX9_move_70 rfl rfl (by decide) (by decide) (by decide) (Nat.le_of_ble_eq_true rfl) h (fun _ _ h => ct_X6_add h) (fun _ M17 h => ?_)
      refine jv_sub [2, 3] rfl ?_
      exact bk_X9_move_73 C hr _ _ _ h
  · refine jv_aload_n C dX9_move_11 rfl 1 rfl ?_
    refine jv_getR C fa_X9_33 dX9_move_12 h (fun b18 h => ?_)
    refine jv_getR C fa_X9_189 dX9_move_15 h (fun b19 h => ?_)
    refine jv_iload_n C dX9_move_18 rfl 0 rfl ?_
    refine jv_vI0 (As := [.int v2]) C lk_X9_318 rfl dX9_move_19 rfl rfl (by decide) (by decide) (by decide) (Nat.le_of_ble_eq_true rfl) h (fun _ _ h => ct_X6_removeAt h) (fun v21 M20 h => ?_)
    refine jv_pop C dX9_move_22 rfl ?_
    refine jv_goto (tgt := 73) C dX9_move_23 (by decide) ?_
    refine jv_sub [1, 2] rfl ?_
    exact bk_X9_move_73 C hr _ _ _ h
theorem dX9_takeSpareConfig_0 : decode cX9_takeSpareConfig 0 = .ok (.aload_n 0, 1) := by decide +kernel
theorem dX9_takeSpareConfig_1 : decode cX9_takeSpareConfig 1 = .ok (.getfield 27, 3) := by decide +kernel
theorem dX9_takeSpareConfig_4 : decode cX9_takeSpareConfig 4 = .ok (.astore_n 1, 1) := by decide +kernel
theorem dX9_takeSpareConfig_5 : decode cX9_takeSpareConfig 5 = .ok (.aload_n 0, 1) := by decide +kernel
theorem dX9_takeSpareConfig_6 : decode cX9_takeSpareConfig 6 = .ok (.aload_n 0, 1) := by decide +kernel
theorem dX9_takeSpareConfig_7 : decode cX9_takeSpareConfig 7 = .ok (.getfield 23, 3) := by decide +kernel
theorem dX9_takeSpareConfig_10 : decode cX9_takeSpareConfig 10 = .ok (.putfield 27, 3) := by decide +kernel
theorem dX9_takeSpareConfig_13 : decode cX9_takeSpareConfig 13 = .ok (.aload_n 0, 1) := by decide +kernel
theorem dX9_takeSpareConfig_14 : decode cX9_takeSpareConfig 14 = .ok (.aload_n 1, 1) := by decide +kernel
theorem dX9_takeSpareConfig_15 : decode cX9_takeSpareConfig 15 = .ok (.putfield 23, 3) := by decide +kernel
theorem dX9_takeSpareConfig_18 : decode cX9_takeSpareConfig 18 = .ok (.aload_n 0, 1) := by decide +kernel
theorem dX9_takeSpareConfig_19 : decode cX9_takeSpareConfig 19 = .ok (.getfield 33, 3) := by decide +kernel
theorem dX9_takeSpareConfig_22 : decode cX9_takeSpareConfig 22 = .ok (.aload_n 0, 1) := by decide +kernel
theorem dX9_takeSpareConfig_23 : decode cX9_takeSpareConfig 23 = .ok (.getfield 23, 3) := by decide +kernel
theorem dX9_takeSpareConfig_26 : decode cX9_takeSpareConfig 26 = .ok (.invokevirtual 112, 3) := by decide +kernel
theorem dX9_takeSpareConfig_29 : decode cX9_takeSpareConfig 29 = .ok (.aload_n 0, 1) := by decide +kernel
theorem dX9_takeSpareConfig_30 : decode cX9_takeSpareConfig 30 = .ok (.getfield 40, 3) := by decide +kernel
theorem dX9_takeSpareConfig_33 : decode cX9_takeSpareConfig 33 = .ok (.invokevirtual 114, 3) := by decide +kernel
theorem dX9_takeSpareConfig_36 : decode cX9_takeSpareConfig 36 = .ok (.iconst 0, 1) := by decide +kernel
theorem dX9_takeSpareConfig_37 : decode cX9_takeSpareConfig 37 = .ok (.istore_n 2, 1) := by decide +kernel
theorem dX9_takeSpareConfig_38 : decode cX9_takeSpareConfig 38 = .ok (.iload_n 2, 1) := by decide +kernel
theorem dX9_takeSpareConfig_39 : decode cX9_takeSpareConfig 39 = .ok (.iconst 2, 1) := by decide +kernel
theorem dX9_takeSpareConfig_40 : decode cX9_takeSpareConfig 40 = .ok (.if_icmp .ge 16, 3) := by decide +kernel
theorem dX9_takeSpareConfig_43 : decode cX9_takeSpareConfig 43 = .ok (.aload_n 0, 1) := by decide +kernel
theorem dX9_takeSpareConfig_44 : decode cX9_takeSpareConfig 44 = .ok (.getfield 48, 3) := by decide +kernel
theorem dX9_takeSpareConfig_47 : decode cX9_takeSpareConfig 47 = .ok (.iload_n 2, 1) := by decide +kernel
theorem dX9_takeSpareConfig_48 : decode cX9_takeSpareConfig 48 = .ok (.iconst 0, 1) := by decide +kernel
theorem dX9_takeSpareConfig_49 : decode cX9_takeSpareConfig 49 = .ok (.bastore, 1) := by decide +kernel
theorem dX9_takeSpareConfig_50 : decode cX9_takeSpareConfig 50 = .ok (.iinc 2 1, 3) := by decide +kernel
theorem dX9_takeSpareConfig_53 : decode cX9_takeSpareConfig 53 = .ok (.goto (-15), 3) := by decide +kernel
theorem dX9_takeSpareConfig_56 : decode cX9_takeSpareConfig 56 = .ok (.return_, 1) := by decide +kernel
def fn_X9_takeSpareConfig_38 (N : Nat) : Nat → Mem → Nat → Int32 → Option (Unit × Mem)
  | 0, _, _, _ => none
  | n + 1, M, a0, x2 =>
    if 2 ≤ x2 then
      some ((), M)
    else
      (mm_gR M a0 9 8).bind fun b1 =>
      (mm_sI M b1 3 x2 (vp_nar .boolean 0)).bind fun M2 =>
      fn_X9_takeSpareConfig_38 N n M2 a0 ((x2 + 1))
set_option maxRecDepth 100000 in
set_option maxHeartbeats 4000000 in
theorem bk_X9_takeSpareConfig_38 {Γ : Gm} {ω : Wd} {k N : Nat} {r : Unit} {M' : Mem} (C : Cx Γ cX9_takeSpareConfig 3 RX9 ω 5 0 0) (hr : Γ.meth.sig.returnType = none) : ∀ (n : Nat) (M : Mem) (a0 : Nat) (x2 : Int32), fn_X9_takeSpareConfig_38 N n M a0 x2 = some (r, M') → JJ Γ (QF Γ ω k 0 0 none M') 3 ω k M 0 0 38 [(0, .ref a0), (2, .int x2)] [] := by
  intro n
  induction n with
  | zero => intro M a0 x2 h; exact jv_no h
  | succ n ih =>
    intro M a0 x2 h
    rw [fn_X9_takeSpareConfig_38.eq_2] at h
    refine jv_iload_n C dX9_takeSpareConfig_38 rfl 1 rfl ?_
    refine jv_iconst (v := 2) C dX9_takeSpareConfig_39 (by decide) ?_
    refine jv_icmp_ge (tgt := 56) C dX9_takeSpareConfig_40 (by decide) h (fun h => ?_) (fun h => ?_)
    · exact jv_vret C hr dX9_takeSpareConfig_56 h
    · refine jv_aload_n C dX9_takeSpareConfig_43 rfl 0 rfl ?_
      refine jv_getR C fa_X9_48 dX9_takeSpareConfig_44 h (fun b1 h => ?_)
      refine jv_iload_n C dX9_takeSpareConfig_47 rfl 1 rfl ?_
      refine jv_iconst (v := 0) C dX9_takeSpareConfig_48 (by decide) ?_
      refine jv_zast C dX9_takeSpareConfig_49 h (fun M2 h => ?_)
      refine jv_iinc (v := 1) (lv' := [(2, .int (x2 + 1)), (0, .ref a0)]) C dX9_takeSpareConfig_50 1 rfl (by decide) (by decide) rfl ?_
      refine jv_goto (tgt := 38) C dX9_takeSpareConfig_53 (by decide) ?_
      refine jv_sub [1, 0] rfl ?_
      exact ih _ _ _ h
def fn_X9_takeSpareConfig (N : Nat) (M : Mem) (a0 : Nat) : Option (Unit × Mem) :=
  (mm_gR M a0 9 4).bind fun b1 =>
  (mm_gR M a0 9 3).bind fun b2 =>
  (mm_pV M a0 9 4 (.ref b2)).bind fun M3 =>
  (mm_pV M3 a0 9 3 (.ref b1)).bind fun M4 =>
  (mm_gR M4 a0 9 5).bind fun b5 =>
  (mm_gR M4 a0 9 3).bind fun b6 =>
  (mm_ck M4 b5 7).bind fun _ => mm_b2 (fn_X7_reset N M4 b5 b6) fun _ M7 =>
  (mm_gR M7 a0 9 6).bind fun b8 =>
  (mm_ck M7 b8 1).bind fun _ => mm_b2 (fn_X1_forget N M7 b8) fun _ M9 =>
  fn_X9_takeSpareConfig_38 N N M9 a0 0
set_option maxRecDepth 100000 in
set_option maxHeartbeats 4000000 in
theorem ct_X9_takeSpareConfig {l : Launch} {ω : Wd} {k N : Nat} {M : Mem} {a0 : Nat} {r : Unit} {M' : Mem} (h : fn_X9_takeSpareConfig N M a0 = some (r, M')) : CM l ω k yX9_takeSpareConfig cX9_takeSpareConfig 3 none 5 0 0 [.ref a0] M none M' := by
  refine CM.of (by decide) (Nat.le_of_ble_eq_true rfl) fun Γ hl C hr hi => ?_
  subst hl
  unfold fn_X9_takeSpareConfig at h
  refine jv_aload_n C dX9_takeSpareConfig_0 rfl 0 rfl ?_
  refine jv_getR C fa_X9_27 dX9_takeSpareConfig_1 h (fun b1 h => ?_)
  refine jv_astore_n (lv' := [(1, .ref b1), (0, .ref a0)]) C dX9_takeSpareConfig_4 rfl (by decide) rfl ?_
  refine jv_aload_n C dX9_takeSpareConfig_5 rfl 1 rfl ?_
  refine jv_aload_n C dX9_takeSpareConfig_6 rfl 1 rfl ?_
  refine jv_getR C fa_X9_23 dX9_takeSpareConfig_7 h (fun b2 h => ?_)
  refine jv_putR C fp_X9_27 dX9_takeSpareConfig_10 (fun _ => ⟨rfl, rfl⟩) h (fun M3 h => ?_)
  refine jv_aload_n C dX9_takeSpareConfig_13 rfl 1 rfl ?_
  refine jv_aload_n C dX9_takeSpareConfig_14 rfl 0 rfl ?_
  refine jv_putR C fp_X9_23 dX9_takeSpareConfig_15 (fun _ => ⟨rfl, rfl⟩) h (fun M4 h => ?_)
  refine jv_aload_n C dX9_takeSpareConfig_18 rfl 1 rfl ?_
  refine jv_getR C fa_X9_33 dX9_takeSpareConfig_19 h (fun b5 h => ?_)
  refine jv_aload_n C dX9_takeSpareConfig_22 rfl 1 rfl ?_
  refine jv_getR C fa_X9_23 dX9_takeSpareConfig_23 h (fun b6 h => ?_)
  refine jv_vV0 (As := [.ref b6]) C lk_X9_112 rfl dX9_takeSpareConfig_26 rfl rfl (by decide) (by decide) (by decide) (Nat.le_of_ble_eq_true rfl) h (fun _ _ h => ct_X7_reset h) (fun _ M7 h => ?_)
  refine jv_aload_n C dX9_takeSpareConfig_29 rfl 1 rfl ?_
  refine jv_getR C fa_X9_40 dX9_takeSpareConfig_30 h (fun b8 h => ?_)
  refine jv_vV0 (As := []) C lk_X9_114 rfl dX9_takeSpareConfig_33 rfl rfl (by decide) (by decide) (by decide) (Nat.le_of_ble_eq_true rfl) h (fun _ _ h => ct_X1_forget h) (fun _ M9 h => ?_)
  refine jv_iconst (v := 0) C dX9_takeSpareConfig_36 (by decide) ?_
  refine jv_istore_n (lv' := [(2, .int 0), (1, .ref b1), (0, .ref a0)]) C dX9_takeSpareConfig_37 rfl (by decide) rfl ?_
  refine jv_sub [2, 0] rfl ?_
  exact bk_X9_takeSpareConfig_38 C hr _ _ _ _ h
theorem dX9_parse_0 : decode cX9_parse 0 = .ok (.iload_n 1, 1) := by decide +kernel
theorem dX9_parse_1 : decode cX9_parse 1 = .ok (.ifCond .lt 11, 3) := by decide +kernel
theorem dX9_parse_4 : decode cX9_parse 4 = .ok (.iload_n 1, 1) := by decide +kernel
theorem dX9_parse_5 : decode cX9_parse 5 = .ok (.aload_n 0, 1) := by decide +kernel
theorem dX9_parse_6 : decode cX9_parse 6 = .ok (.getfield 73, 3) := by decide +kernel
theorem dX9_parse_9 : decode cX9_parse 9 = .ok (.if_icmp .le 5, 3) := by decide +kernel
theorem dX9_parse_12 : decode cX9_parse 12 = .ok (.iconst (-1), 1) := by decide +kernel
theorem dX9_parse_13 : decode cX9_parse 13 = .ok (.ireturn, 1) := by decide +kernel
theorem dX9_parse_14 : decode cX9_parse 14 = .ok (.aload_n 0, 1) := by decide +kernel
theorem dX9_parse_15 : decode cX9_parse 15 = .ok (.iconst 0, 1) := by decide +kernel
theorem dX9_parse_16 : decode cX9_parse 16 = .ok (.putfield 73, 3) := by decide +kernel
theorem dX9_parse_19 : decode cX9_parse 19 = .ok (.aload_n 0, 1) := by decide +kernel
theorem dX9_parse_20 : decode cX9_parse 20 = .ok (.getfield 27, 3) := by decide +kernel
theorem dX9_parse_23 : decode cX9_parse 23 = .ok (.invokevirtual 81, 3) := by decide +kernel
theorem dX9_parse_26 : decode cX9_parse 26 = .ok (.aload_n 0, 1) := by decide +kernel
theorem dX9_parse_27 : decode cX9_parse 27 = .ok (.getfield 16, 3) := by decide +kernel
theorem dX9_parse_30 : decode cX9_parse 30 = .ok (.aload_n 0, 1) := by decide +kernel
theorem dX9_parse_31 : decode cX9_parse 31 = .ok (.getfield 9, 3) := by decide +kernel
theorem dX9_parse_34 : decode cX9_parse 34 = .ok (.iload_n 1, 1) := by decide +kernel
theorem dX9_parse_35 : decode cX9_parse 35 = .ok (.invokevirtual 84, 3) := by decide +kernel
theorem dX9_parse_38 : decode cX9_parse 38 = .ok (.iconst 0, 1) := by decide +kernel
theorem dX9_parse_39 : decode cX9_parse 39 = .ok (.istore_n 2, 1) := by decide +kernel
theorem dX9_parse_40 : decode cX9_parse 40 = .ok (.iload_n 2, 1) := by decide +kernel
theorem dX9_parse_41 : decode cX9_parse 41 = .ok (.iload_n 1, 1) := by decide +kernel
theorem dX9_parse_42 : decode cX9_parse 42 = .ok (.if_icmp .gt 30, 3) := by decide +kernel
theorem dX9_parse_45 : decode cX9_parse 45 = .ok (.aload_n 0, 1) := by decide +kernel
theorem dX9_parse_46 : decode cX9_parse 46 = .ok (.getfield 16, 3) := by decide +kernel
theorem dX9_parse_49 : decode cX9_parse 49 = .ok (.invokevirtual 88, 3) := by decide +kernel
theorem dX9_parse_52 : decode cX9_parse 52 = .ok (.ifCond .eq 20, 3) := by decide +kernel
theorem dX9_parse_55 : decode cX9_parse 55 = .ok (.aload_n 0, 1) := by decide +kernel
theorem dX9_parse_56 : decode cX9_parse 56 = .ok (.getfield 16, 3) := by decide +kernel
theorem dX9_parse_59 : decode cX9_parse 59 = .ok (.aload_n 0, 1) := by decide +kernel
theorem dX9_parse_60 : decode cX9_parse 60 = .ok (.getfield 27, 3) := by decide +kernel
theorem dX9_parse_63 : decode cX9_parse 63 = .ok (.invokevirtual 92, 3) := by decide +kernel
theorem dX9_parse_66 : decode cX9_parse 66 = .ok (.iinc 2 1, 3) := by decide +kernel
theorem dX9_parse_69 : decode cX9_parse 69 = .ok (.goto (-29), 3) := by decide +kernel
theorem dX9_parse_72 : decode cX9_parse 72 = .ok (.aload_n 0, 1) := by decide +kernel
theorem dX9_parse_73 : decode cX9_parse 73 = .ok (.getfield 16, 3) := by decide +kernel
theorem dX9_parse_76 : decode cX9_parse 76 = .ok (.getfield 96, 3) := by decide +kernel
theorem dX9_parse_79 : decode cX9_parse 79 = .ok (.ifCond .eq 14, 3) := by decide +kernel
theorem dX9_parse_82 : decode cX9_parse 82 = .ok (.bipush (-2), 2) := by decide +kernel
theorem dX9_parse_84 : decode cX9_parse 84 = .ok (.aload_n 0, 1) := by decide +kernel
theorem dX9_parse_85 : decode cX9_parse 85 = .ok (.getfield 16, 3) := by decide +kernel
theorem dX9_parse_88 : decode cX9_parse 88 = .ok (.getfield 96, 3) := by decide +kernel
theorem dX9_parse_91 : decode cX9_parse 91 = .ok (.isub, 1) := by decide +kernel
theorem dX9_parse_92 : decode cX9_parse 92 = .ok (.ireturn, 1) := by decide +kernel
theorem dX9_parse_93 : decode cX9_parse 93 = .ok (.aload_n 0, 1) := by decide +kernel
theorem dX9_parse_94 : decode cX9_parse 94 = .ok (.invokevirtual 99, 3) := by decide +kernel
theorem dX9_parse_97 : decode cX9_parse 97 = .ok (.aload_n 0, 1) := by decide +kernel
theorem dX9_parse_98 : decode cX9_parse 98 = .ok (.getfield 23, 3) := by decide +kernel
theorem dX9_parse_101 : decode cX9_parse 101 = .ok (.getfield 102, 3) := by decide +kernel
theorem dX9_parse_104 : decode cX9_parse 104 = .ok (.invokevirtual 106, 3) := by decide +kernel
theorem dX9_parse_107 : decode cX9_parse 107 = .ok (.ireturn, 1) := by decide +kernel
def fn_X9_parse_72 (N : Nat) (M : Mem) (a0 : Nat) : Option (Int32 × Mem) :=
  (mm_gR M a0 9 2).bind fun b1 =>
  (mm_gI M b1 4 5).bind fun v2 =>
  if v2 = 0 then
    (mm_ck M a0 9).bind fun _ => mm_b2 (fn_X9_takeSpareConfig N M a0) fun _ M3 =>
    (mm_gR M3 a0 9 3).bind fun b4 =>
    (mm_gR M3 b4 0 0).bind fun b5 =>
    (mm_ck M3 b5 3).bind fun _ => mm_b2 (fn_X3_count N M3 b5) fun v7 M6 =>
    some (v7, M6)
  else
    (mm_gR M a0 9 2).bind fun b8 =>
    (mm_gI M b8 4 5).bind fun v9 =>
    some (((-2) - v9), M)
set_option maxRecDepth 100000 in
set_option maxHeartbeats 4000000 in
theorem bk_X9_parse_72 {Γ : Gm} {ω : Wd} {k N : Nat} {r : Int32} {M' : Mem} (C : Cx Γ cX9_parse 3 RX9 ω 6 0 0) (hr : Γ.meth.sig.returnType = (some .int)) (M : Mem) (a0 : Nat) (h : fn_X9_parse_72 N M a0 = some (r, M')) : JJ Γ (QF Γ ω k 0 0 (some (.int r)) M') 3 ω k M 0 0 72 [(0, .ref a0)] [] := by
  unfold fn_X9_parse_72 at h
  refine jv_aload_n C dX9_parse_72 rfl 0 rfl ?_
  refine jv_getR C fa_X9_16 dX9_parse_73 h (fun b1 h => ?_)
  refine jv_getI C fa_X9_96 dX9_parse_76 h (fun v2 h => ?_)
  refine jv_if_eq (tgt := 93) C dX9_parse_79 (by decide) h (fun h => ?_) (fun h => ?_)
  · refine jv_aload_n C dX9_parse_93 rfl 0 rfl ?_
    refine jv_vV0 (As := []) C lk_X9_99 rfl dX9_parse_94 rfl rfl (by decide) (by decide) (by decide) (Nat.le_of_ble_eq_true rfl) h (fun _ _ h => ct_X9_takeSpareConfig h) (fun _ M3 h => ?_)
    refine jv_aload_n C dX9_parse_97 rfl 0 rfl ?_
    refine jv_getR C fa_X9_23 dX9_parse_98 h (fun b4 h => ?_)
    refine jv_getR C fa_X9_102 dX9_parse_101 h (fun b5 h => ?_)
    refine jv_vI0 (As := []) C lk_X9_106 rfl dX9_parse_104 rfl rfl (by decide) (by decide) (by decide) (Nat.le_of_ble_eq_true rfl) h (fun _ _ h => ct_X3_count h) (fun v7 M6 h => ?_)
    exact jv_iret C hr dX9_parse_107 h
  · refine jv_bipush (v := (-2)) C dX9_parse_82 (by decide) ?_
    refine jv_aload_n C dX9_parse_84 rfl 0 rfl ?_
    refine jv_getR C fa_X9_16 dX9_parse_85 h (fun b8 h => ?_)
    refine jv_getI C fa_X9_96 dX9_parse_88 h (fun v9 h => ?_)
    refine jv_isub C dX9_parse_91 ?_
    exact jv_iret C hr dX9_parse_92 h
def fn_X9_parse_40 (N : Nat) : Nat → Mem → Nat → Int32 → Int32 → Option (Int32 × Mem)
  | 0, _, _, _, _ => none
  | n + 1, M, a0, x1, x2 =>
    if x1 < x2 then
      fn_X9_parse_72 N M a0
    else
      (mm_gR M a0 9 2).bind fun b1 =>
      (mm_ck M b1 4).bind fun _ => mm_b2 (fn_X4_hasStatement N M b1) fun v3 M2 =>
      if v3 = 0 then
        fn_X9_parse_72 N M2 a0
      else
        (mm_gR M2 a0 9 2).bind fun b4 =>
        (mm_gR M2 a0 9 4).bind fun b5 =>
        (mm_ck M2 b4 4).bind fun _ => mm_b2 (fn_X4_readStatement N M2 b4 b5) fun _ M6 =>
        fn_X9_parse_40 N n M6 a0 x1 ((x2 + 1))
set_option maxRecDepth 100000 in
set_option maxHeartbeats 4000000 in
theorem bk_X9_parse_40 {Γ : Gm} {ω : Wd} {k N : Nat} {r : Int32} {M' : Mem} (C : Cx Γ cX9_parse 3 RX9 ω 6 0 0) (hr : Γ.meth.sig.returnType = (some .int)) : ∀ (n : Nat) (M : Mem) (a0 : Nat) (x1 : Int32) (x2 : Int32), fn_X9_parse_40 N n M a0 x1 x2 = some (r, M') → JJ Γ (QF Γ ω k 0 0 (some (.int r)) M') 3 ω k M 0 0 40 [(0, .ref a0), (1, .int x1), (2, .int x2)] [] := by
  intro n
  induction n with
  | zero => intro M a0 x1 x2 h; exact jv_no h
  | succ n ih =>
    intro M a0 x1 x2 h
    rw [fn_X9_parse_40.eq_2] at h
    refine jv_iload_n C dX9_parse_40 rfl 2 rfl ?_
    refine jv_iload_n C dX9_parse_41 rfl 1 rfl ?_
    refine jv_icmp_gt (tgt := 72) C dX9_parse_42 (by decide) h (fun h => ?_) (fun h => ?_)
    · refine jv_sub [0] rfl ?_
      exact bk_X9_parse_72 C hr _ _ h
    · refine jv_aload_n C dX9_parse_45 rfl 0 rfl ?_
      refine jv_getR C fa_X9_16 dX9_parse_46 h (fun b1 h => ?_)
      refine jv_vI0 (As := []) C lk_X9_88 rfl dX9_parse_49 rfl rfl (by decide) (by decide) (by decide) (Nat.le_of_ble_eq_true rfl) h (fun _ _ h => ct_X4_hasStatement h) (fun v3 M2 h => ?_)
      refine jv_if_eq (tgt := 72) C dX9_parse_52 (by decide) h (fun h => ?_) (fun h => ?_)
      · refine jv_sub [0] rfl ?_
        exact bk_X9_parse_72 C hr _ _ h
      · refine jv_aload_n C dX9_parse_55 rfl 0 rfl ?_
        refine jv_getR C fa_X9_16 dX9_parse_56 h (fun b4 h => ?_)
        refine jv_aload_n C dX9_parse_59 rfl 0 rfl ?_
        refine jv_getR C fa_X9_27 dX9_parse_60 h (fun b5 h => ?_)
        refine jv_vV0 (As := [.ref b5]) C lk_X9_92 rfl dX9_parse_63 rfl rfl (by decide) (by decide) (by decide) (Nat.le_of_ble_eq_true rfl) h (fun _ _ h => ct_X4_readStatement h) (fun _ M6 h => ?_)
        refine jv_iinc (v := 1) (lv' := [(2, .int (x2 + 1)), (0, .ref a0), (1, .int x1)]) C dX9_parse_66 2 rfl (by decide) (by decide) rfl ?_
        refine jv_goto (tgt := 40) C dX9_parse_69 (by decide) ?_
        refine jv_sub [1, 2, 0] rfl ?_
        exact ih _ _ _ _ h
def fn_X9_parse (N : Nat) (M : Mem) (a0 : Nat) (x1 : Int32) : Option (Int32 × Mem) :=
  if x1 < 0 then
    some ((-1), M)
  else
    (mm_gI M a0 9 1).bind fun v1 =>
    if x1 ≤ v1 then
      (mm_pV M a0 9 1 (.int 0)).bind fun M2 =>
      (mm_gR M2 a0 9 4).bind fun b3 =>
      (mm_ck M2 b3 0).bind fun _ => mm_b2 (fn_X0_reset N M2 b3) fun _ M4 =>
      (mm_gR M4 a0 9 2).bind fun b5 =>
      (mm_gR M4 a0 9 0).bind fun b6 =>
      (mm_ck M4 b5 4).bind fun _ => mm_b2 (fn_X4_begin N M4 b5 b6 x1) fun _ M7 =>
      fn_X9_parse_40 N N M7 a0 x1 0
    else
      some ((-1), M)
set_option maxRecDepth 100000 in
set_option maxHeartbeats 4000000 in
theorem ct_X9_parse {l : Launch} {ω : Wd} {k N : Nat} {M : Mem} {a0 : Nat} {x1 : Int32} {r : Int32} {M' : Mem} (h : fn_X9_parse N M a0 x1 = some (r, M')) : CM l ω k yX9_parse cX9_parse 3 (some .int) 6 0 0 [.ref a0, .int x1] M (some (.int r)) M' := by
  refine CM.of (by decide) (Nat.le_of_ble_eq_true rfl) fun Γ hl C hr hi => ?_
  subst hl
  unfold fn_X9_parse at h
  refine jv_iload_n C dX9_parse_0 rfl 1 rfl ?_
  refine jv_if_lt (tgt := 12) C dX9_parse_1 (by decide) h (fun h => ?_) (fun h => ?_)
  · refine jv_iconst (v := (-1)) C dX9_parse_12 (by decide) ?_
    exact jv_iret C hr dX9_parse_13 h
  · refine jv_iload_n C dX9_parse_4 rfl 1 rfl ?_
    refine jv_aload_n C dX9_parse_5 rfl 0 rfl ?_
    refine jv_getI C fa_X9_73 dX9_parse_6 h (fun v1 h => ?_)
    refine jv_icmp_le (tgt := 14) C dX9_parse_9 (by decide) h (fun h => ?_) (fun h => ?_)
    · refine jv_aload_n C dX9_parse_14 rfl 0 rfl ?_
      refine jv_iconst (v := 0) C dX9_parse_15 (by decide) ?_
      refine jv_putI C fp_X9_73 dX9_parse_16 h (fun M2 h => ?_)
      refine jv_aload_n C dX9_parse_19 rfl 0 rfl ?_
      refine jv_getR C fa_X9_27 dX9_parse_20 h (fun b3 h => ?_)
      refine jv_vV0 (As := []) C lk_X9_81 rfl dX9_parse_23 rfl rfl (by decide) (by decide) (by decide) (Nat.le_of_ble_eq_true rfl) h (fun _ _ h => ct_X0_reset h) (fun _ M4 h => ?_)
      refine jv_aload_n C dX9_parse_26 rfl 0 rfl ?_
      refine jv_getR C fa_X9_16 dX9_parse_27 h (fun b5 h => ?_)
      refine jv_aload_n C dX9_parse_30 rfl 0 rfl ?_
      refine jv_getR C fa_X9_9 dX9_parse_31 h (fun b6 h => ?_)
      refine jv_iload_n C dX9_parse_34 rfl 1 rfl ?_
      refine jv_vV0 (As := [.ref b6, .int x1]) C lk_X9_84 rfl dX9_parse_35 rfl rfl (by decide) (by decide) (by decide) (Nat.le_of_ble_eq_true rfl) h (fun _ _ h => ct_X4_begin h) (fun _ M7 h => ?_)
      refine jv_iconst (v := 0) C dX9_parse_38 (by decide) ?_
      refine jv_istore_n (lv' := [(2, .int 0), (0, .ref a0), (1, .int x1)]) C dX9_parse_39 rfl (by decide) rfl ?_
      refine jv_sub [1, 2, 0] rfl ?_
      exact bk_X9_parse_40 C hr _ _ _ _ _ h
    · refine jv_iconst (v := (-1)) C dX9_parse_12 (by decide) ?_
      exact jv_iret C hr dX9_parse_13 h
theorem dX9_payoutCoins_0 : decode cX9_payoutCoins 0 = .ok (.iload_n 1, 1) := by decide +kernel
theorem dX9_payoutCoins_1 : decode cX9_payoutCoins 1 = .ok (.invokestatic 231, 3) := by decide +kernel
theorem dX9_payoutCoins_4 : decode cX9_payoutCoins 4 = .ok (.ifCond .eq 11, 3) := by decide +kernel
theorem dX9_payoutCoins_7 : decode cX9_payoutCoins 7 = .ok (.aload_n 0, 1) := by decide +kernel
theorem dX9_payoutCoins_8 : decode cX9_payoutCoins 8 = .ok (.iload_n 1, 1) := by decide +kernel
theorem dX9_payoutCoins_9 : decode cX9_payoutCoins 9 = .ok (.invokevirtual 234, 3) := by decide +kernel
theorem dX9_payoutCoins_12 : decode cX9_payoutCoins 12 = .ok (.goto 4, 3) := by decide +kernel
theorem dX9_payoutCoins_15 : decode cX9_payoutCoins 15 = .ok (.iconst (-1), 1) := by decide +kernel
theorem dX9_payoutCoins_16 : decode cX9_payoutCoins 16 = .ok (.ireturn, 1) := by decide +kernel
def fn_X9_payoutCoins (N : Nat) (M : Mem) (a0 : Nat) (x1 : Int32) : Option (Int32 × Mem) :=
  mm_b2 (fn_X9_isAmount N M x1) fun v2 M1 =>
  if v2 = 0 then
    some ((-1), M1)
  else
    (mm_ck M1 a0 9).bind fun _ => mm_b2 (fn_X9_planPayout N M1 a0 x1) fun v4 M3 =>
    some (v4, M3)
set_option maxRecDepth 100000 in
set_option maxHeartbeats 4000000 in
theorem ct_X9_payoutCoins {l : Launch} {ω : Wd} {k N : Nat} {M : Mem} {a0 : Nat} {x1 : Int32} {r : Int32} {M' : Mem} (h : fn_X9_payoutCoins N M a0 x1 = some (r, M')) : CM l ω k yX9_payoutCoins cX9_payoutCoins 2 (some .int) 5 0 0 [.ref a0, .int x1] M (some (.int r)) M' := by
  refine CM.of (by decide) (Nat.le_of_ble_eq_true rfl) fun Γ hl C hr hi => ?_
  subst hl
  unfold fn_X9_payoutCoins at h
  refine jv_iload_n C dX9_payoutCoins_0 rfl 1 rfl ?_
  refine jv_sI0 (As := [.int x1]) C lk_X9_231 dX9_payoutCoins_1 rfl rfl (by decide) (by decide) (by decide) (Nat.le_of_ble_eq_true rfl) h (fun _ _ h => ct_X9_isAmount h) (fun v2 M1 h => ?_)
  refine jv_if_eq (tgt := 15) C dX9_payoutCoins_4 (by decide) h (fun h => ?_) (fun h => ?_)
  · refine jv_iconst (v := (-1)) C dX9_payoutCoins_15 (by decide) ?_
    exact jv_iret C hr dX9_payoutCoins_16 h
  · refine jv_aload_n C dX9_payoutCoins_7 rfl 0 rfl ?_
    refine jv_iload_n C dX9_payoutCoins_8 rfl 1 rfl ?_
    refine jv_vI0 (As := [.int x1]) C lk_X9_234 rfl dX9_payoutCoins_9 rfl rfl (by decide) (by decide) (by decide) (Nat.le_of_ble_eq_true rfl) h (fun _ _ h => ct_X9_planPayout h) (fun v4 M3 h => ?_)
    refine jv_goto (tgt := 16) C dX9_payoutCoins_12 (by decide) ?_
    exact jv_iret C hr dX9_payoutCoins_16 h
theorem dX9_payoutOf_0 : decode cX9_payoutOf 0 = .ok (.iload_n 1, 1) := by decide +kernel
theorem dX9_payoutOf_1 : decode cX9_payoutOf 1 = .ok (.invokestatic 231, 3) := by decide +kernel
theorem dX9_payoutOf_4 : decode cX9_payoutOf 4 = .ok (.ifCond .eq 11, 3) := by decide +kernel
theorem dX9_payoutOf_7 : decode cX9_payoutOf 7 = .ok (.aload_n 0, 1) := by decide +kernel
theorem dX9_payoutOf_8 : decode cX9_payoutOf 8 = .ok (.iload_n 2, 1) := by decide +kernel
theorem dX9_payoutOf_9 : decode cX9_payoutOf 9 = .ok (.invokevirtual 139, 3) := by decide +kernel
theorem dX9_payoutOf_12 : decode cX9_payoutOf 12 = .ok (.ifCond .ne 5, 3) := by decide +kernel
theorem dX9_payoutOf_15 : decode cX9_payoutOf 15 = .ok (.iconst (-1), 1) := by decide +kernel
theorem dX9_payoutOf_16 : decode cX9_payoutOf 16 = .ok (.ireturn, 1) := by decide +kernel
theorem dX9_payoutOf_17 : decode cX9_payoutOf 17 = .ok (.aload_n 0, 1) := by decide +kernel
theorem dX9_payoutOf_18 : decode cX9_payoutOf 18 = .ok (.iload_n 1, 1) := by decide +kernel
theorem dX9_payoutOf_19 : decode cX9_payoutOf 19 = .ok (.invokevirtual 234, 3) := by decide +kernel
theorem dX9_payoutOf_22 : decode cX9_payoutOf 22 = .ok (.bipush (-2), 2) := by decide +kernel
theorem dX9_payoutOf_24 : decode cX9_payoutOf 24 = .ok (.if_icmp .ne 8, 3) := by decide +kernel
theorem dX9_payoutOf_27 : decode cX9_payoutOf 27 = .ok (.bipush (-2), 2) := by decide +kernel
theorem dX9_payoutOf_29 : decode cX9_payoutOf 29 = .ok (.goto 14, 3) := by decide +kernel
theorem dX9_payoutOf_32 : decode cX9_payoutOf 32 = .ok (.aload_n 0, 1) := by decide +kernel
theorem dX9_payoutOf_33 : decode cX9_payoutOf 33 = .ok (.getfield 62, 3) := by decide +kernel
theorem dX9_payoutOf_36 : decode cX9_payoutOf 36 = .ok (.getfield 237, 3) := by decide +kernel
theorem dX9_payoutOf_39 : decode cX9_payoutOf 39 = .ok (.iload_n 2, 1) := by decide +kernel
theorem dX9_payoutOf_40 : decode cX9_payoutOf 40 = .ok (.invokevirtual 132, 3) := by decide +kernel
theorem dX9_payoutOf_43 : decode cX9_payoutOf 43 = .ok (.ireturn, 1) := by decide +kernel
def fn_X9_payoutOf (N : Nat) (M : Mem) (a0 : Nat) (x1 : Int32) (x2 : Int32) : Option (Int32 × Mem) :=
  mm_b2 (fn_X9_isAmount N M x1) fun v2 M1 =>
  if v2 = 0 then
    some ((-1), M1)
  else
    (mm_ck M1 a0 9).bind fun _ => mm_b2 (fn_X9_isType N M1 a0 x2) fun v4 M3 =>
    if v4 = 0 then
      some ((-1), M3)
    else
      (mm_ck M3 a0 9).bind fun _ => mm_b2 (fn_X9_planPayout N M3 a0 x1) fun v6 M5 =>
      if v6 = (-2) then
        some ((-2), M5)
      else
        (mm_gR M5 a0 9 10).bind fun b7 =>
        (mm_gR M5 b7 5 4).bind fun b8 =>
        (mm_ck M5 b8 6).bind fun _ => mm_b2 (fn_X6_at N M5 b8 x2) fun v10 M9 =>
        some (v10, M9)
set_option maxRecDepth 100000 in
set_option maxHeartbeats 4000000 in
theorem ct_X9_payoutOf {l : Launch} {ω : Wd} {k N : Nat} {M : Mem} {a0 : Nat} {x1 : Int32} {x2 : Int32} {r : Int32} {M' : Mem} (h : fn_X9_payoutOf N M a0 x1 x2 = some (r, M')) : CM l ω k yX9_payoutOf cX9_payoutOf 3 (some .int) 5 0 0 [.ref a0, .int x1, .int x2] M (some (.int r)) M' := by
  refine CM.of (by decide) (Nat.le_of_ble_eq_true rfl) fun Γ hl C hr hi => ?_
  subst hl
  unfold fn_X9_payoutOf at h
  refine jv_iload_n C dX9_payoutOf_0 rfl 1 rfl ?_
  refine jv_sI0 (As := [.int x1]) C lk_X9_231 dX9_payoutOf_1 rfl rfl (by decide) (by decide) (by decide) (Nat.le_of_ble_eq_true rfl) h (fun _ _ h => ct_X9_isAmount h) (fun v2 M1 h => ?_)
  refine jv_if_eq (tgt := 15) C dX9_payoutOf_4 (by decide) h (fun h => ?_) (fun h => ?_)
  · refine jv_iconst (v := (-1)) C dX9_payoutOf_15 (by decide) ?_
    exact jv_iret C hr dX9_payoutOf_16 h
  · refine jv_aload_n C dX9_payoutOf_7 rfl 0 rfl ?_
    refine jv_iload_n C dX9_payoutOf_8 rfl 2 rfl ?_
    refine jv_vI0 (As := [.int x2]) C lk_X9_139 rfl dX9_payoutOf_9 rfl rfl (by decide) (by decide) (by decide) (Nat.le_of_ble_eq_true rfl) h (fun _ _ h => ct_X9_isType h) (fun v4 M3 h => ?_)
    refine jv_if_ne (tgt := 17) C dX9_payoutOf_12 (by decide) h (fun h => ?_) (fun h => ?_)
    · refine jv_aload_n C dX9_payoutOf_17 rfl 0 rfl ?_
      refine jv_iload_n C dX9_payoutOf_18 rfl 1 rfl ?_
      refine jv_vI0 (As := [.int x1]) C lk_X9_234 rfl dX9_payoutOf_19 rfl rfl (by decide) (by decide) (by decide) (Nat.le_of_ble_eq_true rfl) h (fun _ _ h => ct_X9_planPayout h) (fun v6 M5 h => ?_)
      refine jv_bipush (v := (-2)) C dX9_payoutOf_22 (by decide) ?_
      refine jv_icmp_ne (tgt := 32) C dX9_payoutOf_24 (by decide) h (fun h => ?_) (fun h => ?_)
      · refine jv_aload_n C dX9_payoutOf_32 rfl 0 rfl ?_
        refine jv_getR C fa_X9_62 dX9_payoutOf_33 h (fun b7 h => ?_)
        refine jv_getR C fa_X9_237 dX9_payoutOf_36 h (fun b8 h => ?_)
        refine jv_iload_n C dX9_payoutOf_39 rfl 2 rfl ?_
        refine jv_vI0 (As := [.int x2]) C lk_X9_132 rfl dX9_payoutOf_40 rfl rfl (by decide) (by decide) (by decide) (Nat.le_of_ble_eq_true rfl) h (fun _ _ h => ct_X6_at h) (fun v10 M9 h => ?_)
        exact jv_iret C hr dX9_payoutOf_43 h
      · refine jv_bipush (v := (-2)) C dX9_payoutOf_27 (by decide) ?_
        refine jv_goto (tgt := 43) C dX9_payoutOf_29 (by decide) ?_
        exact jv_iret C hr dX9_payoutOf_43 h
    · refine jv_iconst (v := (-1)) C dX9_payoutOf_15 (by decide) ?_
      exact jv_iret C hr dX9_payoutOf_16 h
theorem dX9_record_0 : decode cX9_record 0 = .ok (.aload_n 0, 1) := by decide +kernel
theorem dX9_record_1 : decode cX9_record 1 = .ok (.getfield 33, 3) := by decide +kernel
theorem dX9_record_4 : decode cX9_record 4 = .ok (.getfield 211, 3) := by decide +kernel
theorem dX9_record_7 : decode cX9_record 7 = .ok (.iload_n 1, 1) := by decide +kernel
theorem dX9_record_8 : decode cX9_record 8 = .ok (.invokevirtual 132, 3) := by decide +kernel
theorem dX9_record_11 : decode cX9_record 11 = .ok (.ireturn, 1) := by decide +kernel
def fn_X9_record (N : Nat) (M : Mem) (a0 : Nat) (x1 : Int32) : Option (Int32 × Mem) :=
  (mm_gR M a0 9 5).bind fun b1 =>
  (mm_gR M b1 7 9).bind fun b2 =>
  (mm_ck M b2 6).bind fun _ => mm_b2 (fn_X6_at N M b2 x1) fun v4 M3 =>
  some (v4, M3)
set_option maxRecDepth 100000 in
set_option maxHeartbeats 4000000 in
theorem ct_X9_record {l : Launch} {ω : Wd} {k N : Nat} {M : Mem} {a0 : Nat} {x1 : Int32} {r : Int32} {M' : Mem} (h : fn_X9_record N M a0 x1 = some (r, M')) : CM l ω k yX9_record cX9_record 2 (some .int) 1 0 0 [.ref a0, .int x1] M (some (.int r)) M' := by
  refine CM.of (by decide) (Nat.le_of_ble_eq_true rfl) fun Γ hl C hr hi => ?_
  subst hl
  unfold fn_X9_record at h
  refine jv_aload_n C dX9_record_0 rfl 0 rfl ?_
  refine jv_getR C fa_X9_33 dX9_record_1 h (fun b1 h => ?_)
  refine jv_getR C fa_X9_211 dX9_record_4 h (fun b2 h => ?_)
  refine jv_iload_n C dX9_record_7 rfl 1 rfl ?_
  refine jv_vI0 (As := [.int x1]) C lk_X9_132 rfl dX9_record_8 rfl rfl (by decide) (by decide) (by decide) (Nat.le_of_ble_eq_true rfl) h (fun _ _ h => ct_X6_at h) (fun v4 M3 h => ?_)
  exact jv_iret C hr dX9_record_11 h
theorem dX9_rejected_0 : decode cX9_rejected 0 = .ok (.aload_n 0, 1) := by decide +kernel
theorem dX9_rejected_1 : decode cX9_rejected 1 = .ok (.getfield 33, 3) := by decide +kernel
theorem dX9_rejected_4 : decode cX9_rejected 4 = .ok (.getfield 202, 3) := by decide +kernel
theorem dX9_rejected_7 : decode cX9_rejected 7 = .ok (.iload_n 1, 1) := by decide +kernel
theorem dX9_rejected_8 : decode cX9_rejected 8 = .ok (.invokestatic 205, 3) := by decide +kernel
theorem dX9_rejected_11 : decode cX9_rejected 11 = .ok (.invokevirtual 132, 3) := by decide +kernel
theorem dX9_rejected_14 : decode cX9_rejected 14 = .ok (.ireturn, 1) := by decide +kernel
def fn_X9_rejected (N : Nat) (M : Mem) (a0 : Nat) (x1 : Int32) : Option (Int32 × Mem) :=
  (mm_gR M a0 9 5).bind fun b1 =>
  (mm_gR M b1 7 8).bind fun b2 =>
  mm_b2 (fn_X9_rejectIndex N M x1) fun v4 M3 =>
  (mm_ck M3 b2 6).bind fun _ => mm_b2 (fn_X6_at N M3 b2 v4) fun v6 M5 =>
  some (v6, M5)
set_option maxRecDepth 100000 in
set_option maxHeartbeats 4000000 in
theorem ct_X9_rejected {l : Launch} {ω : Wd} {k N : Nat} {M : Mem} {a0 : Nat} {x1 : Int32} {r : Int32} {M' : Mem} (h : fn_X9_rejected N M a0 x1 = some (r, M')) : CM l ω k yX9_rejected cX9_rejected 2 (some .int) 1 0 0 [.ref a0, .int x1] M (some (.int r)) M' := by
  refine CM.of (by decide) (Nat.le_of_ble_eq_true rfl) fun Γ hl C hr hi => ?_
  subst hl
  unfold fn_X9_rejected at h
  refine jv_aload_n C dX9_rejected_0 rfl 0 rfl ?_
  refine jv_getR C fa_X9_33 dX9_rejected_1 h (fun b1 h => ?_)
  refine jv_getR C fa_X9_202 dX9_rejected_4 h (fun b2 h => ?_)
  refine jv_iload_n C dX9_rejected_7 rfl 1 rfl ?_
  refine jv_sI0 (As := [.int x1]) C lk_X9_205 dX9_rejected_8 rfl rfl (by decide) (by decide) (by decide) (Nat.le_of_ble_eq_true rfl) h (fun _ _ h => ct_X9_rejectIndex h) (fun v4 M3 h => ?_)
  refine jv_vI0 (As := [.int v4]) C lk_X9_132 rfl dX9_rejected_11 rfl rfl (by decide) (by decide) (by decide) (Nat.le_of_ble_eq_true rfl) h (fun _ _ h => ct_X6_at h) (fun v6 M5 h => ?_)
  exact jv_iret C hr dX9_rejected_14 h
theorem dX9_restoreSnapshot_0 : decode cX9_restoreSnapshot 0 = .ok (.iload_n 1, 1) := by decide +kernel
theorem dX9_restoreSnapshot_1 : decode cX9_restoreSnapshot 1 = .ok (.ifCond .lt 17, 3) := by decide +kernel
theorem dX9_restoreSnapshot_4 : decode cX9_restoreSnapshot 4 = .ok (.iload_n 1, 1) := by decide +kernel
theorem dX9_restoreSnapshot_5 : decode cX9_restoreSnapshot 5 = .ok (.iconst 2, 1) := by decide +kernel
theorem dX9_restoreSnapshot_6 : decode cX9_restoreSnapshot 6 = .ok (.if_icmp .ge 12, 3) := by decide +kernel
theorem dX9_restoreSnapshot_9 : decode cX9_restoreSnapshot 9 = .ok (.aload_n 0, 1) := by decide +kernel
theorem dX9_restoreSnapshot_10 : decode cX9_restoreSnapshot 10 = .ok (.getfield 48, 3) := by decide +kernel
theorem dX9_restoreSnapshot_13 : decode cX9_restoreSnapshot 13 = .ok (.iload_n 1, 1) := by decide +kernel
theorem dX9_restoreSnapshot_14 : decode cX9_restoreSnapshot 14 = .ok (.baload, 1) := by decide +kernel
theorem dX9_restoreSnapshot_15 : decode cX9_restoreSnapshot 15 = .ok (.ifCond .ne 5, 3) := by decide +kernel
theorem dX9_restoreSnapshot_18 : decode cX9_restoreSnapshot 18 = .ok (.iconst 0, 1) := by decide +kernel
theorem dX9_restoreSnapshot_19 : decode cX9_restoreSnapshot 19 = .ok (.ireturn, 1) := by decide +kernel
theorem dX9_restoreSnapshot_20 : decode cX9_restoreSnapshot 20 = .ok (.aload_n 0, 1) := by decide +kernel
theorem dX9_restoreSnapshot_21 : decode cX9_restoreSnapshot 21 = .ok (.getfield 33, 3) := by decide +kernel
theorem dX9_restoreSnapshot_24 : decode cX9_restoreSnapshot 24 = .ok (.aload_n 0, 1) := by decide +kernel
theorem dX9_restoreSnapshot_25 : decode cX9_restoreSnapshot 25 = .ok (.getfield 44, 3) := by decide +kernel
theorem dX9_restoreSnapshot_28 : decode cX9_restoreSnapshot 28 = .ok (.iload_n 1, 1) := by decide +kernel
theorem dX9_restoreSnapshot_29 : decode cX9_restoreSnapshot 29 = .ok (.aaload, 1) := by decide +kernel
theorem dX9_restoreSnapshot_30 : decode cX9_restoreSnapshot 30 = .ok (.invokevirtual 348, 3) := by decide +kernel
theorem dX9_restoreSnapshot_33 : decode cX9_restoreSnapshot 33 = .ok (.aload_n 0, 1) := by decide +kernel
theorem dX9_restoreSnapshot_34 : decode cX9_restoreSnapshot 34 = .ok (.getfield 40, 3) := by decide +kernel
theorem dX9_restoreSnapshot_37 : decode cX9_restoreSnapshot 37 = .ok (.invokevirtual 114, 3) := by decide +kernel
theorem dX9_restoreSnapshot_40 : decode cX9_restoreSnapshot 40 = .ok (.iconst 1, 1) := by decide +kernel
theorem dX9_restoreSnapshot_41 : decode cX9_restoreSnapshot 41 = .ok (.ireturn, 1) := by decide +kernel
def fn_X9_restoreSnapshot (N : Nat) (M : Mem) (a0 : Nat) (x1 : Int32) : Option (Int32 × Mem) :=
  if x1 < 0 then
    some (0, M)
  else
    if 2 ≤ x1 then
      some (0, M)
    else
      (mm_gR M a0 9 8).bind fun b1 =>
      (mm_aI M b1 3 x1).bind fun v2 =>
      if v2 = 0 then
        some (0, M)
      else
        (mm_gR M a0 9 5).bind fun b3 =>
        (mm_gR M a0 9 7).bind fun b4 =>
        (mm_aR M b4 x1).bind fun b5 =>
        (mm_ck M b3 7).bind fun _ => mm_b2 (fn_X7_copyFrom N M b3 b5) fun _ M6 =>
        (mm_gR M6 a0 9 6).bind fun b7 =>
        (mm_ck M6 b7 1).bind fun _ => mm_b2 (fn_X1_forget N M6 b7) fun _ M8 =>
        some (1, M8)
set_option maxRecDepth 100000 in
set_option maxHeartbeats 4000000 in
theorem ct_X9_restoreSnapshot {l : Launch} {ω : Wd} {k N : Nat} {M : Mem} {a0 : Nat} {x1 : Int32} {r : Int32} {M' : Mem} (h : fn_X9_restoreSnapshot N M a0 x1 = some (r, M')) : CM l ω k yX9_restoreSnapshot cX9_restoreSnapshot 2 (some .boolean) 3 0 0 [.ref a0, .int x1] M (some (.int r)) M' := by
  refine CM.of (by decide) (Nat.le_of_ble_eq_true rfl) fun Γ hl C hr hi => ?_
  subst hl
  unfold fn_X9_restoreSnapshot at h
  refine jv_iload_n C dX9_restoreSnapshot_0 rfl 1 rfl ?_
  refine jv_if_lt (tgt := 18) C dX9_restoreSnapshot_1 (by decide) h (fun h => ?_) (fun h => ?_)
  · refine jv_iconst (v := 0) C dX9_restoreSnapshot_18 (by decide) ?_
    exact jv_zretc C hr (Or.inl rfl) dX9_restoreSnapshot_19 h
  · refine jv_iload_n C dX9_restoreSnapshot_4 rfl 1 rfl ?_
    refine jv_iconst (v := 2) C dX9_restoreSnapshot_5 (by decide) ?_
    refine jv_icmp_ge (tgt := 18) C dX9_restoreSnapshot_6 (by decide) h (fun h => ?_) (fun h => ?_)
    · refine jv_iconst (v := 0) C dX9_restoreSnapshot_18 (by decide) ?_
      exact jv_zretc C hr (Or.inl rfl) dX9_restoreSnapshot_19 h
    · refine jv_aload_n C dX9_restoreSnapshot_9 rfl 0 rfl ?_
      refine jv_getR C fa_X9_48 dX9_restoreSnapshot_10 h (fun b1 h => ?_)
      refine jv_iload_n C dX9_restoreSnapshot_13 rfl 1 rfl ?_
      refine jv_zald C dX9_restoreSnapshot_14 h (fun v2 h => ?_)
      refine jv_if_ne (tgt := 20) C dX9_restoreSnapshot_15 (by decide) h (fun h => ?_) (fun h => ?_)
      · refine jv_aload_n C dX9_restoreSnapshot_20 rfl 0 rfl ?_
        refine jv_getR C fa_X9_33 dX9_restoreSnapshot_21 h (fun b3 h => ?_)
        refine jv_aload_n C dX9_restoreSnapshot_24 rfl 0 rfl ?_
        refine jv_getR C fa_X9_44 dX9_restoreSnapshot_25 h (fun b4 h => ?_)
        refine jv_iload_n C dX9_restoreSnapshot_28 rfl 1 rfl ?_
        refine jv_aald C dX9_restoreSnapshot_29 h (fun b5 h => ?_)
        refine jv_vV0 (As := [.ref b5]) C lk_X9_348 rfl dX9_restoreSnapshot_30 rfl rfl (by decide) (by decide) (by decide) (Nat.le_of_ble_eq_true rfl) h (fun _ _ h => ct_X7_copyFrom h) (fun _ M6 h => ?_)
        refine jv_aload_n C dX9_restoreSnapshot_33 rfl 0 rfl ?_
        refine jv_getR C fa_X9_40 dX9_restoreSnapshot_34 h (fun b7 h => ?_)
        refine jv_vV0 (As := []) C lk_X9_114 rfl dX9_restoreSnapshot_37 rfl rfl (by decide) (by decide) (by decide) (Nat.le_of_ble_eq_true rfl) h (fun _ _ h => ct_X1_forget h) (fun _ M8 h => ?_)
        refine jv_iconst (v := 1) C dX9_restoreSnapshot_40 (by decide) ?_
        exact jv_zretc C hr (Or.inr rfl) dX9_restoreSnapshot_41 h
      · refine jv_iconst (v := 0) C dX9_restoreSnapshot_18 (by decide) ?_
        exact jv_zretc C hr (Or.inl rfl) dX9_restoreSnapshot_19 h
theorem dX9_run_0 : decode cX9_run 0 = .ok (.iload_n 1, 1) := by decide +kernel
theorem dX9_run_1 : decode cX9_run 1 = .ok (.iconst 1, 1) := by decide +kernel
theorem dX9_run_2 : decode cX9_run 2 = .ok (.if_icmp .lt 9, 3) := by decide +kernel
theorem dX9_run_5 : decode cX9_run 5 = .ok (.iload_n 1, 1) := by decide +kernel
theorem dX9_run_6 : decode cX9_run 6 = .ok (.bipush 100, 2) := by decide +kernel
theorem dX9_run_8 : decode cX9_run 8 = .ok (.if_icmp .le 5, 3) := by decide +kernel
theorem dX9_run_11 : decode cX9_run 11 = .ok (.iconst (-1), 1) := by decide +kernel
theorem dX9_run_12 : decode cX9_run 12 = .ok (.ireturn, 1) := by decide +kernel
theorem dX9_run_13 : decode cX9_run 13 = .ok (.iconst 0, 1) := by decide +kernel
theorem dX9_run_14 : decode cX9_run 14 = .ok (.istore_n 2, 1) := by decide +kernel
theorem dX9_run_15 : decode cX9_run 15 = .ok (.iload_n 2, 1) := by decide +kernel
theorem dX9_run_16 : decode cX9_run 16 = .ok (.iload_n 1, 1) := by decide +kernel
theorem dX9_run_17 : decode cX9_run 17 = .ok (.if_icmp .ge 42, 3) := by decide +kernel
theorem dX9_run_20 : decode cX9_run 20 = .ok (.aload_n 0, 1) := by decide +kernel
theorem dX9_run_21 : decode cX9_run 21 = .ok (.invokevirtual 196, 3) := by decide +kernel
theorem dX9_run_24 : decode cX9_run 24 = .ok (.istore_n 3, 1) := by decide +kernel
theorem dX9_run_25 : decode cX9_run 25 = .ok (.iload_n 3, 1) := by decide +kernel
theorem dX9_run_26 : decode cX9_run 26 = .ok (.bipush (-2), 2) := by decide +kernel
theorem dX9_run_28 : decode cX9_run 28 = .ok (.if_icmp .ne 5, 3) := by decide +kernel
theorem dX9_run_31 : decode cX9_run 31 = .ok (.iload_n 2, 1) := by decide +kernel
theorem dX9_run_32 : decode cX9_run 32 = .ok (.ireturn, 1) := by decide +kernel
theorem dX9_run_33 : decode cX9_run 33 = .ok (.iload_n 2, 1) := by decide +kernel
theorem dX9_run_34 : decode cX9_run 34 = .ok (.ifCond .ne 14, 3) := by decide +kernel
theorem dX9_run_37 : decode cX9_run 37 = .ok (.aload_n 0, 1) := by decide +kernel
theorem dX9_run_38 : decode cX9_run 38 = .ok (.getfield 40, 3) := by decide +kernel
theorem dX9_run_41 : decode cX9_run 41 = .ok (.aload_n 0, 1) := by decide +kernel
theorem dX9_run_42 : decode cX9_run 42 = .ok (.getfield 33, 3) := by decide +kernel
theorem dX9_run_45 : decode cX9_run 45 = .ok (.invokevirtual 279, 3) := by decide +kernel
theorem dX9_run_48 : decode cX9_run 48 = .ok (.aload_n 0, 1) := by decide +kernel
theorem dX9_run_49 : decode cX9_run 49 = .ok (.iload_n 3, 1) := by decide +kernel
theorem dX9_run_50 : decode cX9_run 50 = .ok (.invokevirtual 297, 3) := by decide +kernel
theorem dX9_run_53 : decode cX9_run 53 = .ok (.iinc 2 1, 3) := by decide +kernel
theorem dX9_run_56 : decode cX9_run 56 = .ok (.goto (-41), 3) := by decide +kernel
theorem dX9_run_59 : decode cX9_run 59 = .ok (.iload_n 1, 1) := by decide +kernel
theorem dX9_run_60 : decode cX9_run 60 = .ok (.ireturn, 1) := by decide +kernel
def fn_X9_run_48 (N : Nat) (K15 : Mem → Nat → Int32 → Int32 → Option (Int32 × Mem)) (M : Mem) (a0 : Nat) (x1 : Int32) (x2 : Int32) (x3 : Int32) : Option (Int32 × Mem) :=
  (mm_ck M a0 9).bind fun _ => mm_b2 (fn_X9_move N M a0 x3) fun _ M1 =>
  K15 M1 a0 x1 ((x2 + 1))
set_option maxRecDepth 100000 in
set_option maxHeartbeats 4000000 in
theorem bk_X9_run_48 {Γ : Gm} {ω : Wd} {k N : Nat} {r : Int32} {M' : Mem} (C : Cx Γ cX9_run 4 RX9 ω 6 0 0) (hr : Γ.meth.sig.returnType = (some .int)) {K15 : Mem → Nat → Int32 → Int32 → Option (Int32 × Mem)} (hK15 : ∀ (M : Mem) (a0 : Nat) (x1 : Int32) (x2 : Int32), K15 M a0 x1 x2 = some (r, M') → JJ Γ (QF Γ ω k 0 0 (some (.int r)) M') 4 ω k M 0 0 15 [(0, .ref a0), (1, .int x1), (2, .int x2)] []) (M : Mem) (a0 : Nat) (x1 : Int32) (x2 : Int32) (x3 : Int32) (h : fn_X9_run_48 N K15 M a0 x1 x2 x3 = some (r, M')) : JJ Γ (QF Γ ω k 0 0 (some (.int r)) M') 4 ω k M 0 0 48 [(0, .ref a0), (1, .int x1), (2, .int x2), (3, .int x3)] [] := by
  unfold fn_X9_run_48 at h
  refine jv_aload_n C dX9_run_48 rfl 0 rfl ?_
  refine jv_iload_n C dX9_run_49 rfl 3 rfl ?_
  refine jv_vV0 (As := [.int x3]) C lk_X9_297 rfl dX9_run_50 rfl rfl (by decide) (by decide) (by decide) (Nat.le_of_ble_eq_true rfl) h (fun _ _ h => ct_X9_move h) (fun _ M1 h => ?_)
  refine jv_iinc (v := 1) (lv' := [(2, .int (x2 + 1)), (0, .ref a0), (1, .int x1), (3, .int x3)]) C dX9_run_53 2 rfl (by decide) (by decide) rfl ?_
  refine jv_goto (tgt := 15) C dX9_run_56 (by decide) ?_
  refine jv_sub [1, 2, 0] rfl ?_
  exact hK15 _ _ _ _ h
def fn_X9_run_15 (N : Nat) : Nat → Mem → Nat → Int32 → Int32 → Option (Int32 × Mem)
  | 0, _, _, _, _ => none
  | n + 1, M, a0, x1, x2 =>
    if x1 ≤ x2 then
      some (x1, M)
    else
      (mm_ck M a0 9).bind fun _ => mm_b2 (fn_X9_nextOutcome N M a0) fun v2 M1 =>
      if v2 = (-2) then
        some (x2, M1)
      else
        if x2 = 0 then
          (mm_gR M1 a0 9 6).bind fun b3 =>
          (mm_gR M1 a0 9 5).bind fun b4 =>
          (mm_ck M1 b3 1).bind fun _ => mm_b2 (fn_X1_push N M1 b3 b4) fun _ M5 =>
          fn_X9_run_48 N (fn_X9_run_15 N n) M5 a0 x1 x2 v2
        else
          fn_X9_run_48 N (fn_X9_run_15 N n) M1 a0 x1 x2 v2
set_option maxRecDepth 100000 in
set_option maxHeartbeats 4000000 in
theorem bk_X9_run_15 {Γ : Gm} {ω : Wd} {k N : Nat} {r : Int32} {M' : Mem} (C : Cx Γ cX9_run 4 RX9 ω 6 0 0) (hr : Γ.meth.sig.returnType = (some .int)) : ∀ (n : Nat) (M : Mem) (a0 : Nat) (x1 : Int32) (x2 : Int32), fn_X9_run_15 N n M a0 x1 x2 = some (r, M') → JJ Γ (QF Γ ω k 0 0 (some (.int r)) M') 4 ω k M 0 0 15 [(0, .ref a0), (1, .int x1), (2, .int x2)] [] := by
  intro n
  induction n with
  | zero => intro M a0 x1 x2 h; exact jv_no h
  | succ n ih =>
    intro M a0 x1 x2 h
    rw [fn_X9_run_15.eq_2] at h
    refine jv_iload_n C dX9_run_15 rfl 2 rfl ?_
    refine jv_iload_n C dX9_run_16 rfl 1 rfl ?_
    refine jv_icmp_ge (tgt := 59) C dX9_run_17 (by decide) h (fun h => ?_) (fun h => ?_)
    · refine jv_iload_n C dX9_run_59 rfl 1 rfl ?_
      exact jv_iret C hr dX9_run_60 h
    · refine jv_aload_n C dX9_run_20 rfl 0 rfl ?_
      refine jv_vI0 (As := []) C lk_X9_196 rfl dX9_run_21 rfl rfl (by decide) (by decide) (by decide) (Nat.le_of_ble_eq_true rfl) h (fun _ _ h => ct_X9_nextOutcome h) (fun v2 M1 h => ?_)
      refine jv_istore_n (lv' := [(3, .int v2), (0, .ref a0), (1, .int x1), (2, .int x2)]) C dX9_run_24 rfl (by decide) rfl ?_
      refine jv_iload_n C dX9_run_25 rfl 0 rfl ?_
      refine jv_bipush (v := (-2)) C dX9_run_26 (by decide) ?_
      refine jv_icmp_ne (tgt := 33) C dX9_run_28 (by decide) h (fun h => ?_) (fun h => ?_)
      · refine jv_iload_n C dX9_run_33 rfl 3 rfl ?_
        refine jv_if_ne (tgt := 48) C dX9_run_34 (by decide) h (fun h => ?_) (fun h => ?_)
        · refine jv_sub [1, 2, 3, 0] rfl ?_
          exact bk_X9_run_48 C hr ih _ _ _ _ _ h
        · refine jv_aload_n C dX9_run_37 rfl 1 rfl ?_
          refine jv_getR C fa_X9_40 dX9_run_38 h (fun b3 h => ?_)
          refine jv_aload_n C dX9_run_41 rfl 1 rfl ?_
          refine jv_getR C fa_X9_33 dX9_run_42 h (fun b4 h => ?_)
          refine jv_vV0 (As := [.ref b4]) C lk_X9_279 rfl dX9_run_45 rfl rfl (by decide) (by decide) (by decide) (Nat.le_of_ble_eq_true rfl) h (fun _ _ h => ct_X1_push h) (fun _ M5 h => ?_)
          refine jv_sub [1, 2, 3, 0] rfl ?_
          exact bk_X9_run_48 C hr ih _ _ _ _ _ h
      · refine jv_iload_n C dX9_run_31 rfl 3 rfl ?_
        exact jv_iret C hr dX9_run_32 h
def fn_X9_run (N : Nat) (M : Mem) (a0 : Nat) (x1 : Int32) : Option (Int32 × Mem) :=
  if x1 < 1 then
    some ((-1), M)
  else
    if x1 ≤ 100 then
      fn_X9_run_15 N N M a0 x1 0
    else
      some ((-1), M)
set_option maxRecDepth 100000 in
set_option maxHeartbeats 4000000 in
theorem ct_X9_run {l : Launch} {ω : Wd} {k N : Nat} {M : Mem} {a0 : Nat} {x1 : Int32} {r : Int32} {M' : Mem} (h : fn_X9_run N M a0 x1 = some (r, M')) : CM l ω k yX9_run cX9_run 4 (some .int) 6 0 0 [.ref a0, .int x1] M (some (.int r)) M' := by
  refine CM.of (by decide) (Nat.le_of_ble_eq_true rfl) fun Γ hl C hr hi => ?_
  subst hl
  unfold fn_X9_run at h
  refine jv_iload_n C dX9_run_0 rfl 1 rfl ?_
  refine jv_iconst (v := 1) C dX9_run_1 (by decide) ?_
  refine jv_icmp_lt (tgt := 11) C dX9_run_2 (by decide) h (fun h => ?_) (fun h => ?_)
  · refine jv_iconst (v := (-1)) C dX9_run_11 (by decide) ?_
    exact jv_iret C hr dX9_run_12 h
  · refine jv_iload_n C dX9_run_5 rfl 1 rfl ?_
    refine jv_bipush (v := 100) C dX9_run_6 (by decide) ?_
    refine jv_icmp_le (tgt := 13) C dX9_run_8 (by decide) h (fun h => ?_) (fun h => ?_)
    · refine jv_iconst (v := 0) C dX9_run_13 (by decide) ?_
      refine jv_istore_n (lv' := [(2, .int 0), (0, .ref a0), (1, .int x1)]) C dX9_run_14 rfl (by decide) rfl ?_
      refine jv_sub [1, 2, 0] rfl ?_
      exact bk_X9_run_15 C hr _ _ _ _ _ h
    · refine jv_iconst (v := (-1)) C dX9_run_11 (by decide) ?_
      exact jv_iret C hr dX9_run_12 h
theorem dX9_sampleCost_0 : decode cX9_sampleCost 0 = .ok (.iload_n 1, 1) := by decide +kernel
theorem dX9_sampleCost_1 : decode cX9_sampleCost 1 = .ok (.invokestatic 251, 3) := by decide +kernel
theorem dX9_sampleCost_4 : decode cX9_sampleCost 4 = .ok (.ifCond .ne 5, 3) := by decide +kernel
theorem dX9_sampleCost_7 : decode cX9_sampleCost 7 = .ok (.iconst (-1), 1) := by decide +kernel
theorem dX9_sampleCost_8 : decode cX9_sampleCost 8 = .ok (.ireturn, 1) := by decide +kernel
theorem dX9_sampleCost_9 : decode cX9_sampleCost 9 = .ok (.iconst 0, 1) := by decide +kernel
theorem dX9_sampleCost_10 : decode cX9_sampleCost 10 = .ok (.istore_n 2, 1) := by decide +kernel
theorem dX9_sampleCost_11 : decode cX9_sampleCost 11 = .ok (.iconst 0, 1) := by decide +kernel
theorem dX9_sampleCost_12 : decode cX9_sampleCost 12 = .ok (.istore_n 3, 1) := by decide +kernel
theorem dX9_sampleCost_13 : decode cX9_sampleCost 13 = .ok (.iload_n 3, 1) := by decide +kernel
theorem dX9_sampleCost_14 : decode cX9_sampleCost 14 = .ok (.aload_n 0, 1) := by decide +kernel
theorem dX9_sampleCost_15 : decode cX9_sampleCost 15 = .ok (.getfield 33, 3) := by decide +kernel
theorem dX9_sampleCost_18 : decode cX9_sampleCost 18 = .ok (.getfield 248, 3) := by decide +kernel
theorem dX9_sampleCost_21 : decode cX9_sampleCost 21 = .ok (.getfield 124, 3) := by decide +kernel
theorem dX9_sampleCost_24 : decode cX9_sampleCost 24 = .ok (.if_icmp .ge 54, 3) := by decide +kernel
theorem dX9_sampleCost_27 : decode cX9_sampleCost 27 = .ok (.aload_n 0, 1) := by decide +kernel
theorem dX9_sampleCost_28 : decode cX9_sampleCost 28 = .ok (.getfield 33, 3) := by decide +kernel
theorem dX9_sampleCost_31 : decode cX9_sampleCost 31 = .ok (.getfield 248, 3) := by decide +kernel
theorem dX9_sampleCost_34 : decode cX9_sampleCost 34 = .ok (.iload_n 3, 1) := by decide +kernel
theorem dX9_sampleCost_35 : decode cX9_sampleCost 35 = .ok (.invokevirtual 132, 3) := by decide +kernel
theorem dX9_sampleCost_38 : decode cX9_sampleCost 38 = .ok (.istore 4, 2) := by decide +kernel
theorem dX9_sampleCost_40 : decode cX9_sampleCost 40 = .ok (.iload_n 2, 1) := by decide +kernel
theorem dX9_sampleCost_41 : decode cX9_sampleCost 41 = .ok (.aload_n 0, 1) := by decide +kernel
theorem dX9_sampleCost_42 : decode cX9_sampleCost 42 = .ok (.getfield 33, 3) := by decide +kernel
theorem dX9_sampleCost_45 : decode cX9_sampleCost 45 = .ok (.getfield 254, 3) := by decide +kernel
theorem dX9_sampleCost_48 : decode cX9_sampleCost 48 = .ok (.iload_n 3, 1) := by decide +kernel
theorem dX9_sampleCost_49 : decode cX9_sampleCost 49 = .ok (.invokevirtual 132, 3) := by decide +kernel
theorem dX9_sampleCost_52 : decode cX9_sampleCost 52 = .ok (.aload_n 0, 1) := by decide +kernel
theorem dX9_sampleCost_53 : decode cX9_sampleCost 53 = .ok (.iload 4, 2) := by decide +kernel
theorem dX9_sampleCost_55 : decode cX9_sampleCost 55 = .ok (.invokestatic 257, 3) := by decide +kernel
theorem dX9_sampleCost_58 : decode cX9_sampleCost 58 = .ok (.iload 4, 2) := by decide +kernel
theorem dX9_sampleCost_60 : decode cX9_sampleCost 60 = .ok (.invokestatic 260, 3) := by decide +kernel
theorem dX9_sampleCost_63 : decode cX9_sampleCost 63 = .ok (.iload_n 1, 1) := by decide +kernel
theorem dX9_sampleCost_64 : decode cX9_sampleCost 64 = .ok (.invokevirtual 173, 3) := by decide +kernel
theorem dX9_sampleCost_67 : decode cX9_sampleCost 67 = .ok (.invokestatic 263, 3) := by decide +kernel
theorem dX9_sampleCost_70 : decode cX9_sampleCost 70 = .ok (.iadd, 1) := by decide +kernel
theorem dX9_sampleCost_71 : decode cX9_sampleCost 71 = .ok (.istore_n 2, 1) := by decide +kernel
theorem dX9_sampleCost_72 : decode cX9_sampleCost 72 = .ok (.iinc 3 1, 3) := by decide +kernel
theorem dX9_sampleCost_75 : decode cX9_sampleCost 75 = .ok (.goto (-62), 3) := by decide +kernel
theorem dX9_sampleCost_78 : decode cX9_sampleCost 78 = .ok (.iload_n 2, 1) := by decide +kernel
theorem dX9_sampleCost_79 : decode cX9_sampleCost 79 = .ok (.ireturn, 1) := by decide +kernel
def fn_X9_sampleCost_13 (N : Nat) : Nat → Mem → Nat → Int32 → Int32 → Int32 → Option (Int32 × Mem)
  | 0, _, _, _, _, _ => none
  | n + 1, M, a0, x1, x2, x3 =>
    (mm_gR M a0 9 5).bind fun b1 =>
    (mm_gR M b1 7 13).bind fun b2 =>
    (mm_gI M b2 6 1).bind fun v3 =>
    if v3 ≤ x3 then
      some (x2, M)
    else
      (mm_gR M a0 9 5).bind fun b4 =>
      (mm_gR M b4 7 13).bind fun b5 =>
      (mm_ck M b5 6).bind fun _ => mm_b2 (fn_X6_at N M b5 x3) fun v7 M6 =>
      (mm_gR M6 a0 9 5).bind fun b8 =>
      (mm_gR M6 b8 7 14).bind fun b9 =>
      (mm_ck M6 b9 6).bind fun _ => mm_b2 (fn_X6_at N M6 b9 x3) fun v11 M10 =>
      mm_b2 (fn_X9_diameterOf N M10 v7) fun v13 M12 =>
      mm_b2 (fn_X9_alloyOf N M12 v7) fun v15 M14 =>
      (mm_ck M14 a0 9).bind fun _ => mm_b2 (fn_X9_verdict N M14 a0 v13 v15 x1) fun v17 M16 =>
      mm_b2 (fn_X9_cost N M16 v11 v17) fun v19 M18 =>
      fn_X9_sampleCost_13 N n M18 a0 x1 ((x2 + v19)) ((x3 + 1))
set_option maxRecDepth 100000 in
set_option maxHeartbeats 4000000 in
theorem bk_X9_sampleCost_13 {Γ : Gm} {ω : Wd} {k N : Nat} {r : Int32} {M' : Mem} (C : Cx Γ cX9_sampleCost 5 RX9 ω 4 0 0) (hr : Γ.meth.sig.returnType = (some .int)) : ∀ (n : Nat) (M : Mem) (a0 : Nat) (x1 : Int32) (x2 : Int32) (x3 : Int32), fn_X9_sampleCost_13 N n M a0 x1 x2 x3 = some (r, M') → JJ Γ (QF Γ ω k 0 0 (some (.int r)) M') 5 ω k M 0 0 13 [(0, .ref a0), (1, .int x1), (2, .int x2), (3, .int x3)] [] := by
  intro n
  induction n with
  | zero => intro M a0 x1 x2 x3 h; exact jv_no h
  | succ n ih =>
    intro M a0 x1 x2 x3 h
    rw [fn_X9_sampleCost_13.eq_2] at h
    refine jv_iload_n C dX9_sampleCost_13 rfl 3 rfl ?_
    refine jv_aload_n C dX9_sampleCost_14 rfl 0 rfl ?_
    refine jv_getR C fa_X9_33 dX9_sampleCost_15 h (fun b1 h => ?_)
    refine jv_getR C fa_X9_248 dX9_sampleCost_18 h (fun b2 h => ?_)
    refine jv_getI C fa_X9_124 dX9_sampleCost_21 h (fun v3 h => ?_)
    refine jv_icmp_ge (tgt := 78) C dX9_sampleCost_24 (by decide) h (fun h => ?_) (fun h => ?_)
    · refine jv_iload_n C dX9_sampleCost_78 rfl 2 rfl ?_
      exact jv_iret C hr dX9_sampleCost_79 h
    · refine jv_aload_n C dX9_sampleCost_27 rfl 0 rfl ?_
      refine jv_getR C fa_X9_33 dX9_sampleCost_28 h (fun b4 h => ?_)
      refine jv_getR C fa_X9_248 dX9_sampleCost_31 h (fun b5 h => ?_)
      refine jv_iload_n C dX9_sampleCost_34 rfl 3 rfl ?_
      refine jv_vI0 (As := [.int x3]) C lk_X9_132 rfl dX9_sampleCost_35 rfl rfl (by decide) (by decide) (by decide) (Nat.le_of_ble_eq_true rfl) h (fun _ _ h => ct_X6_at h) (fun v7 M6 h => ?_)
      refine jv_istore (lv' := [(4, .int v7), (0, .ref a0), (1, .int x1), (2, .int x2), (3, .int x3)]) C dX9_sampleCost_38 (by decide) rfl ?_
      refine jv_iload_n C dX9_sampleCost_40 rfl 3 rfl ?_
      refine jv_aload_n C dX9_sampleCost_41 rfl 1 rfl ?_
      refine jv_getR C fa_X9_33 dX9_sampleCost_42 h (fun b8 h => ?_)
      refine jv_getR C fa_X9_254 dX9_sampleCost_45 h (fun b9 h => ?_)
      refine jv_iload_n C dX9_sampleCost_48 rfl 4 rfl ?_
      refine jv_vI0 (As := [.int x3]) C lk_X9_132 rfl dX9_sampleCost_49 rfl rfl (by decide) (by decide) (by decide) (Nat.le_of_ble_eq_true rfl) h (fun _ _ h => ct_X6_at h) (fun v11 M10 h => ?_)
      refine jv_aload_n C dX9_sampleCost_52 rfl 1 rfl ?_
      refine jv_iload C dX9_sampleCost_53 0 rfl ?_
      refine jv_sI0 (As := [.int v7]) C lk_X9_257 dX9_sampleCost_55 rfl rfl (by decide) (by decide) (by decide) (Nat.le_of_ble_eq_true rfl) h (fun _ _ h => ct_X9_diameterOf h) (fun v13 M12 h => ?_)
      refine jv_iload C dX9_sampleCost_58 0 rfl ?_
      refine jv_sI0 (As := [.int v7]) C lk_X9_260 dX9_sampleCost_60 rfl rfl (by decide) (by decide) (by decide) (Nat.le_of_ble_eq_true rfl) h (fun _ _ h => ct_X9_alloyOf h) (fun v15 M14 h => ?_)
      refine jv_iload_n C dX9_sampleCost_63 rfl 2 rfl ?_
      refine jv_vI0 (As := [.int v13, .int v15, .int x1]) C lk_X9_173 rfl dX9_sampleCost_64 rfl rfl (by decide) (by decide) (by decide) (Nat.le_of_ble_eq_true rfl) h (fun _ _ h => ct_X9_verdict h) (fun v17 M16 h => ?_)
      refine jv_sI0 (As := [.int v11, .int v17]) C lk_X9_263 dX9_sampleCost_67 rfl rfl (by decide) (by decide) (by decide) (Nat.le_of_ble_eq_true rfl) h (fun _ _ h => ct_X9_cost h) (fun v19 M18 h => ?_)
      refine jv_iadd C dX9_sampleCost_70 ?_
      refine jv_istore_n (lv' := [(2, .int (x2 + v19)), (4, .int v7), (0, .ref a0), (1, .int x1), (3, .int x3)]) C dX9_sampleCost_71 rfl (by decide) rfl ?_
      refine jv_iinc (v := 1) (lv' := [(3, .int (x3 + 1)), (2, .int (x2 + v19)), (4, .int v7), (0, .ref a0), (1, .int x1)]) C dX9_sampleCost_72 4 rfl (by decide) (by decide) rfl ?_
      refine jv_goto (tgt := 13) C dX9_sampleCost_75 (by decide) ?_
      refine jv_sub [3, 4, 1, 0] rfl ?_
      exact ih _ _ _ _ _ h
def fn_X9_sampleCost (N : Nat) (M : Mem) (a0 : Nat) (x1 : Int32) : Option (Int32 × Mem) :=
  mm_b2 (fn_X9_isMargin N M x1) fun v2 M1 =>
  if v2 = 0 then
    some ((-1), M1)
  else
    fn_X9_sampleCost_13 N N M1 a0 x1 0 0
set_option maxRecDepth 100000 in
set_option maxHeartbeats 4000000 in
theorem ct_X9_sampleCost {l : Launch} {ω : Wd} {k N : Nat} {M : Mem} {a0 : Nat} {x1 : Int32} {r : Int32} {M' : Mem} (h : fn_X9_sampleCost N M a0 x1 = some (r, M')) : CM l ω k yX9_sampleCost cX9_sampleCost 5 (some .int) 4 0 0 [.ref a0, .int x1] M (some (.int r)) M' := by
  refine CM.of (by decide) (Nat.le_of_ble_eq_true rfl) fun Γ hl C hr hi => ?_
  subst hl
  unfold fn_X9_sampleCost at h
  refine jv_iload_n C dX9_sampleCost_0 rfl 1 rfl ?_
  refine jv_sI0 (As := [.int x1]) C lk_X9_251 dX9_sampleCost_1 rfl rfl (by decide) (by decide) (by decide) (Nat.le_of_ble_eq_true rfl) h (fun _ _ h => ct_X9_isMargin h) (fun v2 M1 h => ?_)
  refine jv_if_ne (tgt := 9) C dX9_sampleCost_4 (by decide) h (fun h => ?_) (fun h => ?_)
  · refine jv_iconst (v := 0) C dX9_sampleCost_9 (by decide) ?_
    refine jv_istore_n (lv' := [(2, .int 0), (0, .ref a0), (1, .int x1)]) C dX9_sampleCost_10 rfl (by decide) rfl ?_
    refine jv_iconst (v := 0) C dX9_sampleCost_11 (by decide) ?_
    refine jv_istore_n (lv' := [(3, .int 0), (2, .int 0), (0, .ref a0), (1, .int x1)]) C dX9_sampleCost_12 rfl (by decide) rfl ?_
    refine jv_sub [2, 3, 1, 0] rfl ?_
    exact bk_X9_sampleCost_13 C hr _ _ _ _ _ _ h
  · refine jv_iconst (v := (-1)) C dX9_sampleCost_7 (by decide) ?_
    exact jv_iret C hr dX9_sampleCost_8 h
theorem dX9_sampleCount_0 : decode cX9_sampleCount 0 = .ok (.aload_n 0, 1) := by decide +kernel
theorem dX9_sampleCount_1 : decode cX9_sampleCount 1 = .ok (.getfield 33, 3) := by decide +kernel
theorem dX9_sampleCount_4 : decode cX9_sampleCount 4 = .ok (.getfield 248, 3) := by decide +kernel
theorem dX9_sampleCount_7 : decode cX9_sampleCount 7 = .ok (.getfield 124, 3) := by decide +kernel
theorem dX9_sampleCount_10 : decode cX9_sampleCount 10 = .ok (.ireturn, 1) := by decide +kernel
def fn_X9_sampleCount (N : Nat) (M : Mem) (a0 : Nat) : Option (Int32 × Mem) :=
  (mm_gR M a0 9 5).bind fun b1 =>
  (mm_gR M b1 7 13).bind fun b2 =>
  (mm_gI M b2 6 1).bind fun v3 =>
  some (v3, M)
set_option maxRecDepth 100000 in
set_option maxHeartbeats 4000000 in
theorem ct_X9_sampleCount {l : Launch} {ω : Wd} {k N : Nat} {M : Mem} {a0 : Nat} {r : Int32} {M' : Mem} (h : fn_X9_sampleCount N M a0 = some (r, M')) : CM l ω k yX9_sampleCount cX9_sampleCount 1 (some .int) 0 0 0 [.ref a0] M (some (.int r)) M' := by
  refine CM.of (by decide) (Nat.le_of_ble_eq_true rfl) fun Γ hl C hr hi => ?_
  subst hl
  unfold fn_X9_sampleCount at h
  refine jv_aload_n C dX9_sampleCount_0 rfl 0 rfl ?_
  refine jv_getR C fa_X9_33 dX9_sampleCount_1 h (fun b1 h => ?_)
  refine jv_getR C fa_X9_248 dX9_sampleCount_4 h (fun b2 h => ?_)
  refine jv_getI C fa_X9_124 dX9_sampleCount_7 h (fun v3 h => ?_)
  exact jv_iret C hr dX9_sampleCount_10 h
theorem dX9_saveSnapshot_0 : decode cX9_saveSnapshot 0 = .ok (.iload_n 1, 1) := by decide +kernel
theorem dX9_saveSnapshot_1 : decode cX9_saveSnapshot 1 = .ok (.ifCond .lt 8, 3) := by decide +kernel
theorem dX9_saveSnapshot_4 : decode cX9_saveSnapshot 4 = .ok (.iload_n 1, 1) := by decide +kernel
theorem dX9_saveSnapshot_5 : decode cX9_saveSnapshot 5 = .ok (.iconst 2, 1) := by decide +kernel
theorem dX9_saveSnapshot_6 : decode cX9_saveSnapshot 6 = .ok (.if_icmp .lt 5, 3) := by decide +kernel
theorem dX9_saveSnapshot_9 : decode cX9_saveSnapshot 9 = .ok (.iconst 0, 1) := by decide +kernel
theorem dX9_saveSnapshot_10 : decode cX9_saveSnapshot 10 = .ok (.ireturn, 1) := by decide +kernel
theorem dX9_saveSnapshot_11 : decode cX9_saveSnapshot 11 = .ok (.aload_n 0, 1) := by decide +kernel
theorem dX9_saveSnapshot_12 : decode cX9_saveSnapshot 12 = .ok (.getfield 44, 3) := by decide +kernel
theorem dX9_saveSnapshot_15 : decode cX9_saveSnapshot 15 = .ok (.iload_n 1, 1) := by decide +kernel
theorem dX9_saveSnapshot_16 : decode cX9_saveSnapshot 16 = .ok (.aaload, 1) := by decide +kernel
theorem dX9_saveSnapshot_17 : decode cX9_saveSnapshot 17 = .ok (.aload_n 0, 1) := by decide +kernel
theorem dX9_saveSnapshot_18 : decode cX9_saveSnapshot 18 = .ok (.getfield 33, 3) := by decide +kernel
theorem dX9_saveSnapshot_21 : decode cX9_saveSnapshot 21 = .ok (.invokevirtual 348, 3) := by decide +kernel
theorem dX9_saveSnapshot_24 : decode cX9_saveSnapshot 24 = .ok (.aload_n 0, 1) := by decide +kernel
theorem dX9_saveSnapshot_25 : decode cX9_saveSnapshot 25 = .ok (.getfield 48, 3) := by decide +kernel
theorem dX9_saveSnapshot_28 : decode cX9_saveSnapshot 28 = .ok (.iload_n 1, 1) := by decide +kernel
theorem dX9_saveSnapshot_29 : decode cX9_saveSnapshot 29 = .ok (.iconst 1, 1) := by decide +kernel
theorem dX9_saveSnapshot_30 : decode cX9_saveSnapshot 30 = .ok (.bastore, 1) := by decide +kernel
theorem dX9_saveSnapshot_31 : decode cX9_saveSnapshot 31 = .ok (.iconst 1, 1) := by decide +kernel
theorem dX9_saveSnapshot_32 : decode cX9_saveSnapshot 32 = .ok (.ireturn, 1) := by decide +kernel
def fn_X9_saveSnapshot (N : Nat) (M : Mem) (a0 : Nat) (x1 : Int32) : Option (Int32 × Mem) :=
  if x1 < 0 then
    some (0, M)
  else
    if x1 < 2 then
      (mm_gR M a0 9 7).bind fun b1 =>
      (mm_aR M b1 x1).bind fun b2 =>
      (mm_gR M a0 9 5).bind fun b3 =>
      (mm_ck M b2 7).bind fun _ => mm_b2 (fn_X7_copyFrom N M b2 b3) fun _ M4 =>
      (mm_gR M4 a0 9 8).bind fun b5 =>
      (mm_sI M4 b5 3 x1 (vp_nar .boolean 1)).bind fun M6 =>
      some (1, M6)
    else
      some (0, M)
set_option maxRecDepth 100000 in
set_option maxHeartbeats 4000000 in
theorem ct_X9_saveSnapshot {l : Launch} {ω : Wd} {k N : Nat} {M : Mem} {a0 : Nat} {x1 : Int32} {r : Int32} {M' : Mem} (h : fn_X9_saveSnapshot N M a0 x1 = some (r, M')) : CM l ω k yX9_saveSnapshot cX9_saveSnapshot 2 (some .boolean) 3 0 0 [.ref a0, .int x1] M (some (.int r)) M' := by
  refine CM.of (by decide) (Nat.le_of_ble_eq_true rfl) fun Γ hl C hr hi => ?_
  subst hl
  unfold fn_X9_saveSnapshot at h
  refine jv_iload_n C dX9_saveSnapshot_0 rfl 1 rfl ?_
  refine jv_if_lt (tgt := 9) C dX9_saveSnapshot_1 (by decide) h (fun h => ?_) (fun h => ?_)
  · refine jv_iconst (v := 0) C dX9_saveSnapshot_9 (by decide) ?_
    exact jv_zretc C hr (Or.inl rfl) dX9_saveSnapshot_10 h
  · refine jv_iload_n C dX9_saveSnapshot_4 rfl 1 rfl ?_
    refine jv_iconst (v := 2) C dX9_saveSnapshot_5 (by decide) ?_
    refine jv_icmp_lt (tgt := 11) C dX9_saveSnapshot_6 (by decide) h (fun h => ?_) (fun h => ?_)
    · refine jv_aload_n C dX9_saveSnapshot_11 rfl 0 rfl ?_
      refine jv_getR C fa_X9_44 dX9_saveSnapshot_12 h (fun b1 h => ?_)
      refine jv_iload_n C dX9_saveSnapshot_15 rfl 1 rfl ?_
      refine jv_aald C dX9_saveSnapshot_16 h (fun b2 h => ?_)
      refine jv_aload_n C dX9_saveSnapshot_17 rfl 0 rfl ?_
      refine jv_getR C fa_X9_33 dX9_saveSnapshot_18 h (fun b3 h => ?_)
      refine jv_vV0 (As := [.ref b3]) C lk_X9_348 rfl dX9_saveSnapshot_21 rfl rfl (by decide) (by decide) (by decide) (Nat.le_of_ble_eq_true rfl) h (fun _ _ h => ct_X7_copyFrom h) (fun _ M4 h => ?_)
      refine jv_aload_n C dX9_saveSnapshot_24 rfl 0 rfl ?_
      refine jv_getR C fa_X9_48 dX9_saveSnapshot_25 h (fun b5 h => ?_)
      refine jv_iload_n C dX9_saveSnapshot_28 rfl 1 rfl ?_
      refine jv_iconst (v := 1) C dX9_saveSnapshot_29 (by decide) ?_
      refine jv_zast C dX9_saveSnapshot_30 h (fun M6 h => ?_)
      refine jv_iconst (v := 1) C dX9_saveSnapshot_31 (by decide) ?_
      exact jv_zretc C hr (Or.inr rfl) dX9_saveSnapshot_32 h
    · refine jv_iconst (v := 0) C dX9_saveSnapshot_9 (by decide) ?_
      exact jv_zretc C hr (Or.inl rfl) dX9_saveSnapshot_10 h
