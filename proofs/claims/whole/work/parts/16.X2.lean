theorem dX2_examine_0 : decode cX2_examine 0 = .ok (.bipush 23, 2) := by decide +kernel
theorem dX2_examine_2 : decode cX2_examine 2 = .ok (.istore 4, 2) := by decide +kernel
theorem dX2_examine_4 : decode cX2_examine 4 = .ok (.ldc 9, 2) := by decide +kernel
theorem dX2_examine_6 : decode cX2_examine 6 = .ok (.istore 5, 2) := by decide +kernel
theorem dX2_examine_8 : decode cX2_examine 8 = .ok (.ldc 9, 2) := by decide +kernel
theorem dX2_examine_10 : decode cX2_examine 10 = .ok (.istore 6, 2) := by decide +kernel
theorem dX2_examine_12 : decode cX2_examine 12 = .ok (.iconst 0, 1) := by decide +kernel
theorem dX2_examine_13 : decode cX2_examine 13 = .ok (.istore 7, 2) := by decide +kernel
theorem dX2_examine_15 : decode cX2_examine 15 = .ok (.iload 7, 2) := by decide +kernel
theorem dX2_examine_17 : decode cX2_examine 17 = .ok (.aload_n 1, 1) := by decide +kernel
theorem dX2_examine_18 : decode cX2_examine 18 = .ok (.getfield 10, 3) := by decide +kernel
theorem dX2_examine_21 : decode cX2_examine 21 = .ok (.invokevirtual 16, 3) := by decide +kernel
theorem dX2_examine_24 : decode cX2_examine 24 = .ok (.if_icmp .ge 55, 3) := by decide +kernel
theorem dX2_examine_27 : decode cX2_examine 27 = .ok (.aload_n 1, 1) := by decide +kernel
theorem dX2_examine_28 : decode cX2_examine 28 = .ok (.getfield 10, 3) := by decide +kernel
theorem dX2_examine_31 : decode cX2_examine 31 = .ok (.iload 7, 2) := by decide +kernel
theorem dX2_examine_33 : decode cX2_examine 33 = .ok (.iload_n 2, 1) := by decide +kernel
theorem dX2_examine_34 : decode cX2_examine 34 = .ok (.iload_n 3, 1) := by decide +kernel
theorem dX2_examine_35 : decode cX2_examine 35 = .ok (.invokevirtual 22, 3) := by decide +kernel
theorem dX2_examine_38 : decode cX2_examine 38 = .ok (.istore 8, 2) := by decide +kernel
theorem dX2_examine_40 : decode cX2_examine 40 = .ok (.iload 8, 2) := by decide +kernel
theorem dX2_examine_42 : decode cX2_examine 42 = .ok (.iload 5, 2) := by decide +kernel
theorem dX2_examine_44 : decode cX2_examine 44 = .ok (.if_icmp .ge 18, 3) := by decide +kernel
theorem dX2_examine_47 : decode cX2_examine 47 = .ok (.iload 7, 2) := by decide +kernel
theorem dX2_examine_49 : decode cX2_examine 49 = .ok (.istore 4, 2) := by decide +kernel
theorem dX2_examine_51 : decode cX2_examine 51 = .ok (.iload 5, 2) := by decide +kernel
theorem dX2_examine_53 : decode cX2_examine 53 = .ok (.istore 6, 2) := by decide +kernel
theorem dX2_examine_55 : decode cX2_examine 55 = .ok (.iload 8, 2) := by decide +kernel
theorem dX2_examine_57 : decode cX2_examine 57 = .ok (.istore 5, 2) := by decide +kernel
theorem dX2_examine_59 : decode cX2_examine 59 = .ok (.goto 14, 3) := by decide +kernel
theorem dX2_examine_62 : decode cX2_examine 62 = .ok (.iload 8, 2) := by decide +kernel
theorem dX2_examine_64 : decode cX2_examine 64 = .ok (.iload 6, 2) := by decide +kernel
theorem dX2_examine_66 : decode cX2_examine 66 = .ok (.if_icmp .ge 7, 3) := by decide +kernel
theorem dX2_examine_69 : decode cX2_examine 69 = .ok (.iload 8, 2) := by decide +kernel
theorem dX2_examine_71 : decode cX2_examine 71 = .ok (.istore 6, 2) := by decide +kernel
theorem dX2_examine_73 : decode cX2_examine 73 = .ok (.iinc 7 1, 3) := by decide +kernel
theorem dX2_examine_76 : decode cX2_examine 76 = .ok (.goto (-61), 3) := by decide +kernel
theorem dX2_examine_79 : decode cX2_examine 79 = .ok (.ldc 9, 2) := by decide +kernel
theorem dX2_examine_81 : decode cX2_examine 81 = .ok (.istore 7, 2) := by decide +kernel
theorem dX2_examine_83 : decode cX2_examine 83 = .ok (.iconst 0, 1) := by decide +kernel
theorem dX2_examine_84 : decode cX2_examine 84 = .ok (.istore 8, 2) := by decide +kernel
theorem dX2_examine_86 : decode cX2_examine 86 = .ok (.iload 8, 2) := by decide +kernel
theorem dX2_examine_88 : decode cX2_examine 88 = .ok (.aload_n 1, 1) := by decide +kernel
theorem dX2_examine_89 : decode cX2_examine 89 = .ok (.getfield 26, 3) := by decide +kernel
theorem dX2_examine_92 : decode cX2_examine 92 = .ok (.invokevirtual 16, 3) := by decide +kernel
theorem dX2_examine_95 : decode cX2_examine 95 = .ok (.if_icmp .ge 27, 3) := by decide +kernel
theorem dX2_examine_98 : decode cX2_examine 98 = .ok (.iload 7, 2) := by decide +kernel
theorem dX2_examine_100 : decode cX2_examine 100 = .ok (.aload_n 1, 1) := by decide +kernel
theorem dX2_examine_101 : decode cX2_examine 101 = .ok (.getfield 26, 3) := by decide +kernel
theorem dX2_examine_104 : decode cX2_examine 104 = .ok (.iload 8, 2) := by decide +kernel
theorem dX2_examine_106 : decode cX2_examine 106 = .ok (.iload_n 2, 1) := by decide +kernel
theorem dX2_examine_107 : decode cX2_examine 107 = .ok (.iload_n 3, 1) := by decide +kernel
theorem dX2_examine_108 : decode cX2_examine 108 = .ok (.invokevirtual 22, 3) := by decide +kernel
theorem dX2_examine_111 : decode cX2_examine 111 = .ok (.invokestatic 29, 3) := by decide +kernel
theorem dX2_examine_114 : decode cX2_examine 114 = .ok (.istore 7, 2) := by decide +kernel
theorem dX2_examine_116 : decode cX2_examine 116 = .ok (.iinc 8 1, 3) := by decide +kernel
theorem dX2_examine_119 : decode cX2_examine 119 = .ok (.goto (-33), 3) := by decide +kernel
theorem dX2_examine_122 : decode cX2_examine 122 = .ok (.iload 7, 2) := by decide +kernel
theorem dX2_examine_124 : decode cX2_examine 124 = .ok (.ldc 9, 2) := by decide +kernel
theorem dX2_examine_126 : decode cX2_examine 126 = .ok (.if_icmp .eq 14, 3) := by decide +kernel
theorem dX2_examine_129 : decode cX2_examine 129 = .ok (.iload 7, 2) := by decide +kernel
theorem dX2_examine_131 : decode cX2_examine 131 = .ok (.iload 5, 2) := by decide +kernel
theorem dX2_examine_133 : decode cX2_examine 133 = .ok (.if_icmp .gt 7, 3) := by decide +kernel
theorem dX2_examine_136 : decode cX2_examine 136 = .ok (.iconst 1, 1) := by decide +kernel
theorem dX2_examine_137 : decode cX2_examine 137 = .ok (.goto 4, 3) := by decide +kernel
theorem dX2_examine_140 : decode cX2_examine 140 = .ok (.iconst 0, 1) := by decide +kernel
theorem dX2_examine_141 : decode cX2_examine 141 = .ok (.istore 8, 2) := by decide +kernel
theorem dX2_examine_143 : decode cX2_examine 143 = .ok (.aload_n 0, 1) := by decide +kernel
theorem dX2_examine_144 : decode cX2_examine 144 = .ok (.iload 8, 2) := by decide +kernel
theorem dX2_examine_146 : decode cX2_examine 146 = .ok (.ifCond .eq 8, 3) := by decide +kernel
theorem dX2_examine_149 : decode cX2_examine 149 = .ok (.bipush 22, 2) := by decide +kernel
theorem dX2_examine_151 : decode cX2_examine 151 = .ok (.goto 5, 3) := by decide +kernel
theorem dX2_examine_154 : decode cX2_examine 154 = .ok (.iload 4, 2) := by decide +kernel
theorem dX2_examine_156 : decode cX2_examine 156 = .ok (.putfield 35, 3) := by decide +kernel
theorem dX2_examine_159 : decode cX2_examine 159 = .ok (.aload_n 0, 1) := by decide +kernel
theorem dX2_examine_160 : decode cX2_examine 160 = .ok (.iload 8, 2) := by decide +kernel
theorem dX2_examine_162 : decode cX2_examine 162 = .ok (.ifCond .ne 10, 3) := by decide +kernel
theorem dX2_examine_165 : decode cX2_examine 165 = .ok (.iload 6, 2) := by decide +kernel
theorem dX2_examine_167 : decode cX2_examine 167 = .ok (.ldc 9, 2) := by decide +kernel
theorem dX2_examine_169 : decode cX2_examine 169 = .ok (.if_icmp .ne 9, 3) := by decide +kernel
theorem dX2_examine_172 : decode cX2_examine 172 = .ok (.sipush 2000, 3) := by decide +kernel
theorem dX2_examine_175 : decode cX2_examine 175 = .ok (.goto 8, 3) := by decide +kernel
theorem dX2_examine_178 : decode cX2_examine 178 = .ok (.iload 6, 2) := by decide +kernel
theorem dX2_examine_180 : decode cX2_examine 180 = .ok (.iload 5, 2) := by decide +kernel
theorem dX2_examine_182 : decode cX2_examine 182 = .ok (.isub, 1) := by decide +kernel
theorem dX2_examine_183 : decode cX2_examine 183 = .ok (.putfield 41, 3) := by decide +kernel
theorem dX2_examine_186 : decode cX2_examine 186 = .ok (.return_, 1) := by decide +kernel
def fn_X2_examine_156 (N : Nat) (M : Mem) (a0 : Nat) (x5 : Int32) (x6 : Int32) (x8 : Int32) (s0 : Int32) (s1 : Nat) : Option (Unit × Mem) :=
  (mm_pV M s1 2 0 (.int s0)).bind fun M1 =>
  if x8 = 0 then
    if x6 = 1000000 then
      (mm_pV M1 a0 2 1 (.int 2000)).bind fun M4 =>
      some ((), M4)
    else
      (mm_pV M1 a0 2 1 (.int (x6 - x5))).bind fun M3 =>
      some ((), M3)
  else
    (mm_pV M1 a0 2 1 (.int 2000)).bind fun M2 =>
    some ((), M2)
set_option maxRecDepth 100000 in
set_option maxHeartbeats 4000000 in
theorem bk_X2_examine_156 {Γ : Gm} {ω : Wd} {k N : Nat} {r : Unit} {M' : Mem} (C : Cx Γ cX2_examine 9 RX2 ω 2 0 0) (hr : Γ.meth.sig.returnType = none) (M : Mem) (a0 : Nat) (x5 : Int32) (x6 : Int32) (x8 : Int32) (s0 : Int32) (s1 : Nat) (h : fn_X2_examine_156 N M a0 x5 x6 x8 s0 s1 = some (r, M')) : JJ Γ (QF Γ ω k 0 0 none M') 9 ω k M 0 0 156 [(0, .ref a0), (5, .int x5), (6, .int x6), (8, .int x8)] [.int s0, .ref s1] := by
  unfold fn_X2_examine_156 at h
  refine jv_putI C fp_X2_35 dX2_examine_156 h (fun M1 h => ?_)
  refine jv_aload_n C dX2_examine_159 rfl 0 rfl ?_
  refine jv_iload C dX2_examine_160 3 rfl ?_
  refine jv_if_ne (tgt := 172) C dX2_examine_162 (by decide) h (fun h => ?_) (fun h => ?_)
  · refine jv_sipush (v := 2000) C dX2_examine_172 (by decide) ?_
    refine jv_goto (tgt := 183) C dX2_examine_175 (by decide) ?_
    refine jv_putI C fp_X2_41 dX2_examine_183 h (fun M2 h => ?_)
    exact jv_vret C hr dX2_examine_186 h
  · refine jv_iload C dX2_examine_165 2 rfl ?_
    refine jv_ldc C gw_1026 dX2_examine_167 ?_
    refine jv_icmp_ne (tgt := 178) C dX2_examine_169 (by decide) h (fun h => ?_) (fun h => ?_)
    · refine jv_iload C dX2_examine_178 2 rfl ?_
      refine jv_iload C dX2_examine_180 1 rfl ?_
      refine jv_isub C dX2_examine_182 ?_
      refine jv_putI C fp_X2_41 dX2_examine_183 h (fun M3 h => ?_)
      exact jv_vret C hr dX2_examine_186 h
    · refine jv_sipush (v := 2000) C dX2_examine_172 (by decide) ?_
      refine jv_goto (tgt := 183) C dX2_examine_175 (by decide) ?_
      refine jv_putI C fp_X2_41 dX2_examine_183 h (fun M4 h => ?_)
      exact jv_vret C hr dX2_examine_186 h
def fn_X2_examine_141 (N : Nat) (M : Mem) (a0 : Nat) (x4 : Int32) (x5 : Int32) (x6 : Int32) (s0 : Int32) : Option (Unit × Mem) :=
  if s0 = 0 then
    fn_X2_examine_156 N M a0 x5 x6 s0 x4 a0
  else
    fn_X2_examine_156 N M a0 x5 x6 s0 22 a0
set_option maxRecDepth 100000 in
set_option maxHeartbeats 4000000 in
theorem bk_X2_examine_141 {Γ : Gm} {ω : Wd} {k N : Nat} {r : Unit} {M' : Mem} (C : Cx Γ cX2_examine 9 RX2 ω 2 0 0) (hr : Γ.meth.sig.returnType = none) (M : Mem) (a0 : Nat) (x4 : Int32) (x5 : Int32) (x6 : Int32) (s0 : Int32) (h : fn_X2_examine_141 N M a0 x4 x5 x6 s0 = some (r, M')) : JJ Γ (QF Γ ω k 0 0 none M') 9 ω k M 0 0 141 [(0, .ref a0), (4, .int x4), (5, .int x5), (6, .int x6)] [.int s0] := by
  unfold fn_X2_examine_141 at h
  refine jv_istore (lv' := [(8, .int s0), (0, .ref a0), (4, .int x4), (5, .int x5), (6, .int x6)]) C dX2_examine_141 (by decide) rfl ?_
  refine jv_aload_n C dX2_examine_143 rfl 1 rfl ?_
  refine jv_iload C dX2_examine_144 0 rfl ?_
  refine jv_if_eq (tgt := 154) C dX2_examine_146 (by decide) h (fun h => ?_) (fun h => ?_)
  · refine jv_iload C dX2_examine_154 2 rfl ?_
    refine jv_sub [1, 3, 4, 0] rfl ?_
    exact bk_X2_examine_156 C hr _ _ _ _ _ _ _ h
  · refine jv_bipush (v := 22) C dX2_examine_149 (by decide) ?_
    refine jv_goto (tgt := 156) C dX2_examine_151 (by decide) ?_
    refine jv_sub [1, 3, 4, 0] rfl ?_
    exact bk_X2_examine_156 C hr _ _ _ _ _ _ _ h
def fn_X2_examine_140 (N : Nat) (M : Mem) (a0 : Nat) (x4 : Int32) (x5 : Int32) (x6 : Int32) : Option (Unit × Mem) :=
  fn_X2_examine_141 N M a0 x4 x5 x6 0
set_option maxRecDepth 100000 in
set_option maxHeartbeats 4000000 in
theorem bk_X2_examine_140 {Γ : Gm} {ω : Wd} {k N : Nat} {r : Unit} {M' : Mem} (C : Cx Γ cX2_examine 9 RX2 ω 2 0 0) (hr : Γ.meth.sig.returnType = none) (M : Mem) (a0 : Nat) (x4 : Int32) (x5 : Int32) (x6 : Int32) (h : fn_X2_examine_140 N M a0 x4 x5 x6 = some (r, M')) : JJ Γ (QF Γ ω k 0 0 none M') 9 ω k M 0 0 140 [(0, .ref a0), (4, .int x4), (5, .int x5), (6, .int x6)] [] := by
  unfold fn_X2_examine_140 at h
  refine jv_iconst (v := 0) C dX2_examine_140 (by decide) ?_
  exact bk_X2_examine_141 C hr _ _ _ _ _ _ h
def fn_X2_examine_86 (N : Nat) : Nat → Mem → Nat → Nat → Int32 → Int32 → Int32 → Int32 → Int32 → Int32 → Int32 → Option (Unit × Mem)
  | 0, _, _, _, _, _, _, _, _, _, _ => none
  | n + 1, M, a0, a1, x2, x3, x4, x5, x6, x7, x8 =>
    (mm_gR M a1 0 1).bind fun b1 =>
    (mm_ck M b1 3).bind fun _ => mm_b2 (fn_X3_count N M b1) fun v3 M2 =>
    if v3 ≤ x8 then
      if x7 = 1000000 then
        fn_X2_examine_140 N M2 a0 x4 x5 x6
      else
        if x5 < x7 then
          fn_X2_examine_140 N M2 a0 x4 x5 x6
        else
          fn_X2_examine_141 N M2 a0 x4 x5 x6 1
    else
      (mm_gR M2 a1 0 1).bind fun b4 =>
      (mm_ck M2 b4 3).bind fun _ => mm_b2 (fn_X3_scoreOf N M2 b4 x8 x2 x3) fun v6 M5 =>
      mm_lt (if v6 < x7 then v6 else x7) fun v7 =>
      fn_X2_examine_86 N n M5 a0 a1 x2 x3 x4 x5 x6 v7 ((x8 + 1))
set_option maxRecDepth 100000 in
set_option maxHeartbeats 4000000 in
theorem bk_X2_examine_86 {Γ : Gm} {ω : Wd} {k N : Nat} {r : Unit} {M' : Mem} (C : Cx Γ cX2_examine 9 RX2 ω 2 0 0) (hr : Γ.meth.sig.returnType = none) : ∀ (n : Nat) (M : Mem) (a0 : Nat) (a1 : Nat) (x2 : Int32) (x3 : Int32) (x4 : Int32) (x5 : Int32) (x6 : Int32) (x7 : Int32) (x8 : Int32), fn_X2_examine_86 N n M a0 a1 x2 x3 x4 x5 x6 x7 x8 = some (r, M') → JJ Γ (QF Γ ω k 0 0 none M') 9 ω k M 0 0 86 [(0, .ref a0), (1, .ref a1), (2, .int x2), (3, .int x3), (4, .int x4), (5, .int x5), (6, .int x6), (7, .int x7), (8, .int x8)] [] := by
  intro n
  induction n with
  | zero => intro M a0 a1 x2 x3 x4 x5 x6 x7 x8 h; exact jv_no h
  | succ n ih =>
    intro M a0 a1 x2 x3 x4 x5 x6 x7 x8 h
    rw [fn_X2_examine_86.eq_2] at h
    refine jv_iload C dX2_examine_86 8 rfl ?_
    refine jv_aload_n C dX2_examine_88 rfl 1 rfl ?_
    refine jv_getR C fa_X2_26 dX2_examine_89 h (fun b1 h => ?_)
    refine jv_vI0 (As := []) C lk_X2_16 rfl dX2_examine_92 rfl rfl (by decide) (by decide) (by decide) (Nat.le_of_ble_eq_true rfl) h (fun _ _ h => ct_X3_count h) (fun v3 M2 h => ?_)
    refine jv_icmp_ge (tgt := 122) C dX2_examine_95 (by decide) h (fun h => ?_) (fun h => ?_)
    · refine jv_iload C dX2_examine_122 7 rfl ?_
      refine jv_ldc C gw_1026 dX2_examine_124 ?_
      refine jv_icmp_eq (tgt := 140) C dX2_examine_126 (by decide) h (fun h => ?_) (fun h => ?_)
      · refine jv_sub [0, 4, 5, 6] rfl ?_
        exact bk_X2_examine_140 C hr _ _ _ _ _ h
      · refine jv_iload C dX2_examine_129 7 rfl ?_
        refine jv_iload C dX2_examine_131 5 rfl ?_
        refine jv_icmp_gt (tgt := 140) C dX2_examine_133 (by decide) h (fun h => ?_) (fun h => ?_)
        · refine jv_sub [0, 4, 5, 6] rfl ?_
          exact bk_X2_examine_140 C hr _ _ _ _ _ h
        · refine jv_iconst (v := 1) C dX2_examine_136 (by decide) ?_
          refine jv_goto (tgt := 141) C dX2_examine_137 (by decide) ?_
          refine jv_sub [0, 4, 5, 6] rfl ?_
          exact bk_X2_examine_141 C hr _ _ _ _ _ _ h
    · refine jv_iload C dX2_examine_98 7 rfl ?_
      refine jv_aload_n C dX2_examine_100 rfl 1 rfl ?_
      refine jv_getR C fa_X2_26 dX2_examine_101 h (fun b4 h => ?_)
      refine jv_iload C dX2_examine_104 8 rfl ?_
      refine jv_iload_n C dX2_examine_106 rfl 2 rfl ?_
      refine jv_iload_n C dX2_examine_107 rfl 3 rfl ?_
      refine jv_vI0 (As := [.int x8, .int x2, .int x3]) C lk_X2_22 rfl dX2_examine_108 rfl rfl (by decide) (by decide) (by decide) (Nat.le_of_ble_eq_true rfl) h (fun _ _ h => ct_X3_scoreOf h) (fun v6 M5 h => ?_)
      refine jv_mmin C gw_1037 gw_280 gw_98 gw_281 (by decide) (by decide) (Nat.le_of_ble_eq_true rfl) dX2_examine_111 ?_
      refine jv_nameI h (fun v7 h => ?_)
      refine jv_istore (lv' := [(7, .int v7), (0, .ref a0), (1, .ref a1), (2, .int x2), (3, .int x3), (4, .int x4), (5, .int x5), (6, .int x6), (8, .int x8)]) C dX2_examine_114 (by decide) rfl ?_
      refine jv_iinc (v := 1) (lv' := [(8, .int (x8 + 1)), (7, .int v7), (0, .ref a0), (1, .ref a1), (2, .int x2), (3, .int x3), (4, .int x4), (5, .int x5), (6, .int x6)]) C dX2_examine_116 8 rfl (by decide) (by decide) rfl ?_
      refine jv_goto (tgt := 86) C dX2_examine_119 (by decide) ?_
      refine jv_sub [2, 3, 4, 5, 6, 7, 8, 1, 0] rfl ?_
      exact ih _ _ _ _ _ _ _ _ _ _ h
def fn_X2_examine_73 (N : Nat) (K15 : Mem → Nat → Nat → Int32 → Int32 → Int32 → Int32 → Int32 → Int32 → Option (Unit × Mem)) (M : Mem) (a0 : Nat) (a1 : Nat) (x2 : Int32) (x3 : Int32) (x4 : Int32) (x5 : Int32) (x6 : Int32) (x7 : Int32) : Option (Unit × Mem) :=
  K15 M a0 a1 x2 x3 x4 x5 x6 ((x7 + 1))
set_option maxRecDepth 100000 in
set_option maxHeartbeats 4000000 in
theorem bk_X2_examine_73 {Γ : Gm} {ω : Wd} {k N : Nat} {r : Unit} {M' : Mem} (C : Cx Γ cX2_examine 9 RX2 ω 2 0 0) (hr : Γ.meth.sig.returnType = none) {K15 : Mem → Nat → Nat → Int32 → Int32 → Int32 → Int32 → Int32 → Int32 → Option (Unit × Mem)} (hK15 : ∀ (M : Mem) (a0 : Nat) (a1 : Nat) (x2 : Int32) (x3 : Int32) (x4 : Int32) (x5 : Int32) (x6 : Int32) (x7 : Int32), K15 M a0 a1 x2 x3 x4 x5 x6 x7 = some (r, M') → JJ Γ (QF Γ ω k 0 0 none M') 9 ω k M 0 0 15 [(0, .ref a0), (1, .ref a1), (2, .int x2), (3, .int x3), (4, .int x4), (5, .int x5), (6, .int x6), (7, .int x7)] []) (M : Mem) (a0 : Nat) (a1 : Nat) (x2 : Int32) (x3 : Int32) (x4 : Int32) (x5 : Int32) (x6 : Int32) (x7 : Int32) (h : fn_X2_examine_73 N K15 M a0 a1 x2 x3 x4 x5 x6 x7 = some (r, M')) : JJ Γ (QF Γ ω k 0 0 none M') 9 ω k M 0 0 73 [(0, .ref a0), (1, .ref a1), (2, .int x2), (3, .int x3), (4, .int x4), (5, .int x5), (6, .int x6), (7, .int x7)] [] := by
  unfold fn_X2_examine_73 at h
  refine jv_iinc (v := 1) (lv' := [(7, .int (x7 + 1)), (0, .ref a0), (1, .ref a1), (2, .int x2), (3, .int x3), (4, .int x4), (5, .int x5), (6, .int x6)]) C dX2_examine_73 7 rfl (by decide) (by decide) rfl ?_
  refine jv_goto (tgt := 15) C dX2_examine_76 (by decide) ?_
  refine jv_sub [1, 2, 3, 4, 5, 6, 7, 0] rfl ?_
  exact hK15 _ _ _ _ _ _ _ _ _ h
def fn_X2_examine_15 (N : Nat) : Nat → Mem → Nat → Nat → Int32 → Int32 → Int32 → Int32 → Int32 → Int32 → Option (Unit × Mem)
  | 0, _, _, _, _, _, _, _, _, _ => none
  | n + 1, M, a0, a1, x2, x3, x4, x5, x6, x7 =>
    (mm_gR M a1 0 0).bind fun b1 =>
    (mm_ck M b1 3).bind fun _ => mm_b2 (fn_X3_count N M b1) fun v3 M2 =>
    if v3 ≤ x7 then
      fn_X2_examine_86 N N M2 a0 a1 x2 x3 x4 x5 x6 1000000 0
    else
      (mm_gR M2 a1 0 0).bind fun b4 =>
      (mm_ck M2 b4 3).bind fun _ => mm_b2 (fn_X3_scoreOf N M2 b4 x7 x2 x3) fun v6 M5 =>
      if x5 ≤ v6 then
        if x6 ≤ v6 then
          fn_X2_examine_73 N (fn_X2_examine_15 N n) M5 a0 a1 x2 x3 x4 x5 x6 x7
        else
          fn_X2_examine_73 N (fn_X2_examine_15 N n) M5 a0 a1 x2 x3 x4 x5 v6 x7
      else
        fn_X2_examine_73 N (fn_X2_examine_15 N n) M5 a0 a1 x2 x3 x7 v6 x5 x7
set_option maxRecDepth 100000 in
set_option maxHeartbeats 4000000 in
theorem bk_X2_examine_15 {Γ : Gm} {ω : Wd} {k N : Nat} {r : Unit} {M' : Mem} (C : Cx Γ cX2_examine 9 RX2 ω 2 0 0) (hr : Γ.meth.sig.returnType = none) : ∀ (n : Nat) (M : Mem) (a0 : Nat) (a1 : Nat) (x2 : Int32) (x3 : Int32) (x4 : Int32) (x5 : Int32) (x6 : Int32) (x7 : Int32), fn_X2_examine_15 N n M a0 a1 x2 x3 x4 x5 x6 x7 = some (r, M') → JJ Γ (QF Γ ω k 0 0 none M') 9 ω k M 0 0 15 [(0, .ref a0), (1, .ref a1), (2, .int x2), (3, .int x3), (4, .int x4), (5, .int x5), (6, .int x6), (7, .int x7)] [] := by
  intro n
  induction n with
  | zero => intro M a0 a1 x2 x3 x4 x5 x6 x7 h; exact jv_no h
  | succ n ih =>
    intro M a0 a1 x2 x3 x4 x5 x6 x7 h
    rw [fn_X2_examine_15.eq_2] at h
    refine jv_iload C dX2_examine_15 7 rfl ?_
    refine jv_aload_n C dX2_examine_17 rfl 1 rfl ?_
    refine jv_getR C fa_X2_10 dX2_examine_18 h (fun b1 h => ?_)
    refine jv_vI0 (As := []) C lk_X2_16 rfl dX2_examine_21 rfl rfl (by decide) (by decide) (by decide) (Nat.le_of_ble_eq_true rfl) h (fun _ _ h => ct_X3_count h) (fun v3 M2 h => ?_)
    refine jv_icmp_ge (tgt := 79) C dX2_examine_24 (by decide) h (fun h => ?_) (fun h => ?_)
    · refine jv_ldc C gw_1026 dX2_examine_79 ?_
      refine jv_istore (lv' := [(7, .int 1000000), (0, .ref a0), (1, .ref a1), (2, .int x2), (3, .int x3), (4, .int x4), (5, .int x5), (6, .int x6)]) C dX2_examine_81 (by decide) rfl ?_
      refine jv_iconst (v := 0) C dX2_examine_83 (by decide) ?_
      refine jv_istore (lv' := [(8, .int 0), (7, .int 1000000), (0, .ref a0), (1, .ref a1), (2, .int x2), (3, .int x3), (4, .int x4), (5, .int x5), (6, .int x6)]) C dX2_examine_84 (by decide) rfl ?_
      refine jv_sub [2, 3, 4, 5, 6, 7, 8, 1, 0] rfl ?_
      exact bk_X2_examine_86 C hr _ _ _ _ _ _ _ _ _ _ _ h
    · refine jv_aload_n C dX2_examine_27 rfl 1 rfl ?_
      refine jv_getR C fa_X2_10 dX2_examine_28 h (fun b4 h => ?_)
      refine jv_iload C dX2_examine_31 7 rfl ?_
      refine jv_iload_n C dX2_examine_33 rfl 2 rfl ?_
      refine jv_iload_n C dX2_examine_34 rfl 3 rfl ?_
      refine jv_vI0 (As := [.int x7, .int x2, .int x3]) C lk_X2_22 rfl dX2_examine_35 rfl rfl (by decide) (by decide) (by decide) (Nat.le_of_ble_eq_true rfl) h (fun _ _ h => ct_X3_scoreOf h) (fun v6 M5 h => ?_)
      refine jv_istore (lv' := [(8, .int v6), (0, .ref a0), (1, .ref a1), (2, .int x2), (3, .int x3), (4, .int x4), (5, .int x5), (6, .int x6), (7, .int x7)]) C dX2_examine_38 (by decide) rfl ?_
      refine jv_iload C dX2_examine_40 0 rfl ?_
      refine jv_iload C dX2_examine_42 6 rfl ?_
      refine jv_icmp_ge (tgt := 62) C dX2_examine_44 (by decide) h (fun h => ?_) (fun h => ?_)
      · refine jv_iload C dX2_examine_62 0 rfl ?_
        refine jv_iload C dX2_examine_64 7 rfl ?_
        refine jv_icmp_ge (tgt := 73) C dX2_examine_66 (by decide) h (fun h => ?_) (fun h => ?_)
        · refine jv_sub [1, 2, 3, 4, 5, 6, 7, 8] rfl ?_
          exact bk_X2_examine_73 C hr ih _ _ _ _ _ _ _ _ _ h
        · refine jv_iload C dX2_examine_69 0 rfl ?_
          refine jv_istore (lv' := [(6, .int v6), (8, .int v6), (0, .ref a0), (1, .ref a1), (2, .int x2), (3, .int x3), (4, .int x4), (5, .int x5), (7, .int x7)]) C dX2_examine_71 (by decide) rfl ?_
          refine jv_sub [2, 3, 4, 5, 6, 7, 0, 8] rfl ?_
          exact bk_X2_examine_73 C hr ih _ _ _ _ _ _ _ _ _ h
      · refine jv_iload C dX2_examine_47 8 rfl ?_
        refine jv_istore (lv' := [(4, .int x7), (8, .int v6), (0, .ref a0), (1, .ref a1), (2, .int x2), (3, .int x3), (5, .int x5), (6, .int x6), (7, .int x7)]) C dX2_examine_49 (by decide) rfl ?_
        refine jv_iload C dX2_examine_51 6 rfl ?_
        refine jv_istore (lv' := [(6, .int x5), (4, .int x7), (8, .int v6), (0, .ref a0), (1, .ref a1), (2, .int x2), (3, .int x3), (5, .int x5), (7, .int x7)]) C dX2_examine_53 (by decide) rfl ?_
        refine jv_iload C dX2_examine_55 2 rfl ?_
        refine jv_istore (lv' := [(5, .int v6), (6, .int x5), (4, .int x7), (8, .int v6), (0, .ref a0), (1, .ref a1), (2, .int x2), (3, .int x3), (7, .int x7)]) C dX2_examine_57 (by decide) rfl ?_
        refine jv_goto (tgt := 73) C dX2_examine_59 (by decide) ?_
        refine jv_sub [4, 5, 6, 7, 2, 0, 1, 8] rfl ?_
        exact bk_X2_examine_73 C hr ih _ _ _ _ _ _ _ _ _ h
def fn_X2_examine (N : Nat) (M : Mem) (a0 : Nat) (a1 : Nat) (x2 : Int32) (x3 : Int32) : Option (Unit × Mem) :=
  fn_X2_examine_15 N N M a0 a1 x2 x3 23 1000000 1000000 0
set_option maxRecDepth 100000 in
set_option maxHeartbeats 4000000 in
theorem ct_X2_examine {l : Launch} {ω : Wd} {k N : Nat} {M : Mem} {a0 : Nat} {a1 : Nat} {x2 : Int32} {x3 : Int32} {r : Unit} {M' : Mem} (h : fn_X2_examine N M a0 a1 x2 x3 = some (r, M')) : CM l ω k yX2_examine cX2_examine 9 none 2 0 0 [.ref a0, .ref a1, .int x2, .int x3] M none M' := by
  refine CM.of (by decide) (Nat.le_of_ble_eq_true rfl) fun Γ hl C hr hi => ?_
  subst hl
  unfold fn_X2_examine at h
  refine jv_bipush (v := 23) C dX2_examine_0 (by decide) ?_
  refine jv_istore (lv' := [(4, .int 23), (0, .ref a0), (1, .ref a1), (2, .int x2), (3, .int x3)]) C dX2_examine_2 (by decide) rfl ?_
  refine jv_ldc C gw_1026 dX2_examine_4 ?_
  refine jv_istore (lv' := [(5, .int 1000000), (4, .int 23), (0, .ref a0), (1, .ref a1), (2, .int x2), (3, .int x3)]) C dX2_examine_6 (by decide) rfl ?_
  refine jv_ldc C gw_1026 dX2_examine_8 ?_
  refine jv_istore (lv' := [(6, .int 1000000), (5, .int 1000000), (4, .int 23), (0, .ref a0), (1, .ref a1), (2, .int x2), (3, .int x3)]) C dX2_examine_10 (by decide) rfl ?_
  refine jv_iconst (v := 0) C dX2_examine_12 (by decide) ?_
  refine jv_istore (lv' := [(7, .int 0), (6, .int 1000000), (5, .int 1000000), (4, .int 23), (0, .ref a0), (1, .ref a1), (2, .int x2), (3, .int x3)]) C dX2_examine_13 (by decide) rfl ?_
  refine jv_sub [4, 5, 6, 7, 3, 2, 1, 0] rfl ?_
  exact bk_X2_examine_15 C hr _ _ _ _ _ _ _ _ _ _ h
theorem dX2_init_0 : decode cX2_init 0 = .ok (.aload_n 0, 1) := by decide +kernel
theorem dX2_init_1 : decode cX2_init 1 = .ok (.invokespecial 3, 3) := by decide +kernel
theorem dX2_init_4 : decode cX2_init 4 = .ok (.return_, 1) := by decide +kernel
def fn_X2_init (N : Nat) (M : Mem) (a0 : Nat) : Option (Unit × Mem) :=
  some ((), M)
set_option maxRecDepth 100000 in
set_option maxHeartbeats 4000000 in
theorem ct_X2_init {l : Launch} {ω : Wd} {k N : Nat} {M : Mem} {a0 : Nat} {r : Unit} {M' : Mem} (h : fn_X2_init N M a0 = some (r, M')) : CM l ω k yX2_init cX2_init 1 none 1 0 0 [.ref a0] M none M' := by
  refine CM.of (by decide) (Nat.le_of_ble_eq_true rfl) fun Γ hl C hr hi => ?_
  subst hl
  unfold fn_X2_init at h
  refine jv_aload_n C dX2_init_0 rfl 0 rfl ?_
  refine jv_objInit C gw_703 gw_129 gw_130 (Nat.le_of_ble_eq_true rfl) dX2_init_1 ?_
  exact jv_vret C hr dX2_init_4 h
theorem dX2_verdictAt_0 : decode cX2_verdictAt 0 = .ok (.aload_n 0, 1) := by decide +kernel
theorem dX2_verdictAt_1 : decode cX2_verdictAt 1 = .ok (.getfield 41, 3) := by decide +kernel
theorem dX2_verdictAt_4 : decode cX2_verdictAt 4 = .ok (.iload_n 1, 1) := by decide +kernel
theorem dX2_verdictAt_5 : decode cX2_verdictAt 5 = .ok (.if_icmp .ge 8, 3) := by decide +kernel
theorem dX2_verdictAt_8 : decode cX2_verdictAt 8 = .ok (.bipush 21, 2) := by decide +kernel
theorem dX2_verdictAt_10 : decode cX2_verdictAt 10 = .ok (.goto 7, 3) := by decide +kernel
theorem dX2_verdictAt_13 : decode cX2_verdictAt 13 = .ok (.aload_n 0, 1) := by decide +kernel
theorem dX2_verdictAt_14 : decode cX2_verdictAt 14 = .ok (.getfield 35, 3) := by decide +kernel
theorem dX2_verdictAt_17 : decode cX2_verdictAt 17 = .ok (.ireturn, 1) := by decide +kernel
def fn_X2_verdictAt (N : Nat) (M : Mem) (a0 : Nat) (x1 : Int32) : Option (Int32 × Mem) :=
  (mm_gI M a0 2 1).bind fun v1 =>
  if x1 ≤ v1 then
    (mm_gI M a0 2 0).bind fun v2 =>
    some (v2, M)
  else
    some (21, M)
set_option maxRecDepth 100000 in
set_option maxHeartbeats 4000000 in
theorem ct_X2_verdictAt {l : Launch} {ω : Wd} {k N : Nat} {M : Mem} {a0 : Nat} {x1 : Int32} {r : Int32} {M' : Mem} (h : fn_X2_verdictAt N M a0 x1 = some (r, M')) : CM l ω k yX2_verdictAt cX2_verdictAt 2 (some .int) 0 0 0 [.ref a0, .int x1] M (some (.int r)) M' := by
  refine CM.of (by decide) (Nat.le_of_ble_eq_true rfl) fun Γ hl C hr hi => ?_
  subst hl
  unfold fn_X2_verdictAt at h
  refine jv_aload_n C dX2_verdictAt_0 rfl 0 rfl ?_
  refine jv_getI C fa_X2_41 dX2_verdictAt_1 h (fun v1 h => ?_)
  refine jv_iload_n C dX2_verdictAt_4 rfl 1 rfl ?_
  refine jv_icmp_ge (tgt := 13) C dX2_verdictAt_5 (by decide) h (fun h => ?_) (fun h => ?_)
  · refine jv_aload_n C dX2_verdictAt_13 rfl 0 rfl ?_
    refine jv_getI C fa_X2_35 dX2_verdictAt_14 h (fun v2 h => ?_)
    exact jv_iret C hr dX2_verdictAt_17 h
  · refine jv_bipush (v := 21) C dX2_verdictAt_8 (by decide) ?_
    refine jv_goto (tgt := 17) C dX2_verdictAt_10 (by decide) ?_
    exact jv_iret C hr dX2_verdictAt_17 h
