theorem dX10_bestMargin_0 : decode cX10_bestMargin 0 = .ok (.aload_n 0, 1) := by decide +kernel
theorem dX10_bestMargin_1 : decode cX10_bestMargin 1 = .ok (.iconst 0, 1) := by decide +kernel
theorem dX10_bestMargin_2 : decode cX10_bestMargin 2 = .ok (.putfield 58, 3) := by decide +kernel
theorem dX10_bestMargin_5 : decode cX10_bestMargin 5 = .ok (.iconst 0, 1) := by decide +kernel
theorem dX10_bestMargin_6 : decode cX10_bestMargin 6 = .ok (.istore_n 1, 1) := by decide +kernel
theorem dX10_bestMargin_7 : decode cX10_bestMargin 7 = .ok (.iload_n 1, 1) := by decide +kernel
theorem dX10_bestMargin_8 : decode cX10_bestMargin 8 = .ok (.aload_n 0, 1) := by decide +kernel
theorem dX10_bestMargin_9 : decode cX10_bestMargin 9 = .ok (.getfield 52, 3) := by decide +kernel
theorem dX10_bestMargin_12 : decode cX10_bestMargin 12 = .ok (.arraylength, 1) := by decide +kernel
theorem dX10_bestMargin_13 : decode cX10_bestMargin 13 = .ok (.if_icmp .ge 16, 3) := by decide +kernel
theorem dX10_bestMargin_16 : decode cX10_bestMargin 16 = .ok (.aload_n 0, 1) := by decide +kernel
theorem dX10_bestMargin_17 : decode cX10_bestMargin 17 = .ok (.getfield 52, 3) := by decide +kernel
theorem dX10_bestMargin_20 : decode cX10_bestMargin 20 = .ok (.iload_n 1, 1) := by decide +kernel
theorem dX10_bestMargin_21 : decode cX10_bestMargin 21 = .ok (.iconst 0, 1) := by decide +kernel
theorem dX10_bestMargin_22 : decode cX10_bestMargin 22 = .ok (.iastore, 1) := by decide +kernel
theorem dX10_bestMargin_23 : decode cX10_bestMargin 23 = .ok (.iinc 1 1, 3) := by decide +kernel
theorem dX10_bestMargin_26 : decode cX10_bestMargin 26 = .ok (.goto (-19), 3) := by decide +kernel
theorem dX10_bestMargin_29 : decode cX10_bestMargin 29 = .ok (.iconst 0, 1) := by decide +kernel
theorem dX10_bestMargin_30 : decode cX10_bestMargin 30 = .ok (.istore_n 1, 1) := by decide +kernel
theorem dX10_bestMargin_31 : decode cX10_bestMargin 31 = .ok (.iload_n 1, 1) := by decide +kernel
theorem dX10_bestMargin_32 : decode cX10_bestMargin 32 = .ok (.aload_n 0, 1) := by decide +kernel
theorem dX10_bestMargin_33 : decode cX10_bestMargin 33 = .ok (.getfield 29, 3) := by decide +kernel
theorem dX10_bestMargin_36 : decode cX10_bestMargin 36 = .ok (.bipush 9, 2) := by decide +kernel
theorem dX10_bestMargin_38 : decode cX10_bestMargin 38 = .ok (.iaload, 1) := by decide +kernel
theorem dX10_bestMargin_39 : decode cX10_bestMargin 39 = .ok (.if_icmp .ge 92, 3) := by decide +kernel
theorem dX10_bestMargin_42 : decode cX10_bestMargin 42 = .ok (.aload_n 0, 1) := by decide +kernel
theorem dX10_bestMargin_43 : decode cX10_bestMargin 43 = .ok (.getfield 29, 3) := by decide +kernel
theorem dX10_bestMargin_46 : decode cX10_bestMargin 46 = .ok (.sipush 292, 3) := by decide +kernel
theorem dX10_bestMargin_49 : decode cX10_bestMargin 49 = .ok (.iconst 3, 1) := by decide +kernel
theorem dX10_bestMargin_50 : decode cX10_bestMargin 50 = .ok (.iload_n 1, 1) := by decide +kernel
theorem dX10_bestMargin_51 : decode cX10_bestMargin 51 = .ok (.imul, 1) := by decide +kernel
theorem dX10_bestMargin_52 : decode cX10_bestMargin 52 = .ok (.iadd, 1) := by decide +kernel
theorem dX10_bestMargin_53 : decode cX10_bestMargin 53 = .ok (.iconst 2, 1) := by decide +kernel
theorem dX10_bestMargin_54 : decode cX10_bestMargin 54 = .ok (.iadd, 1) := by decide +kernel
theorem dX10_bestMargin_55 : decode cX10_bestMargin 55 = .ok (.iaload, 1) := by decide +kernel
theorem dX10_bestMargin_56 : decode cX10_bestMargin 56 = .ok (.istore_n 2, 1) := by decide +kernel
theorem dX10_bestMargin_57 : decode cX10_bestMargin 57 = .ok (.aload_n 0, 1) := by decide +kernel
theorem dX10_bestMargin_58 : decode cX10_bestMargin 58 = .ok (.iload_n 1, 1) := by decide +kernel
theorem dX10_bestMargin_59 : decode cX10_bestMargin 59 = .ok (.iconst 0, 1) := by decide +kernel
theorem dX10_bestMargin_60 : decode cX10_bestMargin 60 = .ok (.invokevirtual 260, 3) := by decide +kernel
theorem dX10_bestMargin_63 : decode cX10_bestMargin 63 = .ok (.istore_n 3, 1) := by decide +kernel
theorem dX10_bestMargin_64 : decode cX10_bestMargin 64 = .ok (.iload_n 3, 1) := by decide +kernel
theorem dX10_bestMargin_65 : decode cX10_bestMargin 65 = .ok (.bipush 20, 2) := by decide +kernel
theorem dX10_bestMargin_67 : decode cX10_bestMargin 67 = .ok (.if_icmp .ge 58, 3) := by decide +kernel
theorem dX10_bestMargin_70 : decode cX10_bestMargin 70 = .ok (.aload_n 0, 1) := by decide +kernel
theorem dX10_bestMargin_71 : decode cX10_bestMargin 71 = .ok (.getfield 187, 3) := by decide +kernel
theorem dX10_bestMargin_74 : decode cX10_bestMargin 74 = .ok (.ldc 180, 2) := by decide +kernel
theorem dX10_bestMargin_76 : decode cX10_bestMargin 76 = .ok (.if_icmp .ne 6, 3) := by decide +kernel
theorem dX10_bestMargin_79 : decode cX10_bestMargin 79 = .ok (.goto 46, 3) := by decide +kernel
theorem dX10_bestMargin_82 : decode cX10_bestMargin 82 = .ok (.aload_n 0, 1) := by decide +kernel
theorem dX10_bestMargin_83 : decode cX10_bestMargin 83 = .ok (.getfield 187, 3) := by decide +kernel
theorem dX10_bestMargin_86 : decode cX10_bestMargin 86 = .ok (.aload_n 0, 1) := by decide +kernel
theorem dX10_bestMargin_87 : decode cX10_bestMargin 87 = .ok (.getfield 184, 3) := by decide +kernel
theorem dX10_bestMargin_90 : decode cX10_bestMargin 90 = .ok (.isub, 1) := by decide +kernel
theorem dX10_bestMargin_91 : decode cX10_bestMargin 91 = .ok (.iconst 1, 1) := by decide +kernel
theorem dX10_bestMargin_92 : decode cX10_bestMargin 92 = .ok (.iadd, 1) := by decide +kernel
theorem dX10_bestMargin_93 : decode cX10_bestMargin 93 = .ok (.istore 4, 2) := by decide +kernel
theorem dX10_bestMargin_95 : decode cX10_bestMargin 95 = .ok (.iload 4, 2) := by decide +kernel
theorem dX10_bestMargin_97 : decode cX10_bestMargin 97 = .ok (.sipush 2000, 3) := by decide +kernel
theorem dX10_bestMargin_100 : decode cX10_bestMargin 100 = .ok (.if_icmp .gt 25, 3) := by decide +kernel
theorem dX10_bestMargin_103 : decode cX10_bestMargin 103 = .ok (.aload_n 0, 1) := by decide +kernel
theorem dX10_bestMargin_104 : decode cX10_bestMargin 104 = .ok (.getfield 52, 3) := by decide +kernel
theorem dX10_bestMargin_107 : decode cX10_bestMargin 107 = .ok (.iload 4, 2) := by decide +kernel
theorem dX10_bestMargin_109 : decode cX10_bestMargin 109 = .ok (.dup2, 1) := by decide +kernel
theorem dX10_bestMargin_110 : decode cX10_bestMargin 110 = .ok (.iaload, 1) := by decide +kernel
theorem dX10_bestMargin_111 : decode cX10_bestMargin 111 = .ok (.bipush 21, 2) := by decide +kernel
theorem dX10_bestMargin_113 : decode cX10_bestMargin 113 = .ok (.iload_n 2, 1) := by decide +kernel
theorem dX10_bestMargin_114 : decode cX10_bestMargin 114 = .ok (.invokestatic 263, 3) := by decide +kernel
theorem dX10_bestMargin_117 : decode cX10_bestMargin 117 = .ok (.iload_n 3, 1) := by decide +kernel
theorem dX10_bestMargin_118 : decode cX10_bestMargin 118 = .ok (.iload_n 2, 1) := by decide +kernel
theorem dX10_bestMargin_119 : decode cX10_bestMargin 119 = .ok (.invokestatic 263, 3) := by decide +kernel
theorem dX10_bestMargin_122 : decode cX10_bestMargin 122 = .ok (.isub, 1) := by decide +kernel
theorem dX10_bestMargin_123 : decode cX10_bestMargin 123 = .ok (.iadd, 1) := by decide +kernel
theorem dX10_bestMargin_124 : decode cX10_bestMargin 124 = .ok (.iastore, 1) := by decide +kernel
theorem dX10_bestMargin_125 : decode cX10_bestMargin 125 = .ok (.iinc 1 1, 3) := by decide +kernel
theorem dX10_bestMargin_128 : decode cX10_bestMargin 128 = .ok (.goto (-97), 3) := by decide +kernel
theorem dX10_bestMargin_131 : decode cX10_bestMargin 131 = .ok (.iconst 0, 1) := by decide +kernel
theorem dX10_bestMargin_132 : decode cX10_bestMargin 132 = .ok (.istore_n 1, 1) := by decide +kernel
theorem dX10_bestMargin_133 : decode cX10_bestMargin 133 = .ok (.iconst 0, 1) := by decide +kernel
theorem dX10_bestMargin_134 : decode cX10_bestMargin 134 = .ok (.istore_n 2, 1) := by decide +kernel
theorem dX10_bestMargin_135 : decode cX10_bestMargin 135 = .ok (.iconst 0, 1) := by decide +kernel
theorem dX10_bestMargin_136 : decode cX10_bestMargin 136 = .ok (.istore_n 3, 1) := by decide +kernel
theorem dX10_bestMargin_137 : decode cX10_bestMargin 137 = .ok (.iconst 0, 1) := by decide +kernel
theorem dX10_bestMargin_138 : decode cX10_bestMargin 138 = .ok (.istore 4, 2) := by decide +kernel
theorem dX10_bestMargin_140 : decode cX10_bestMargin 140 = .ok (.iload 4, 2) := by decide +kernel
theorem dX10_bestMargin_142 : decode cX10_bestMargin 142 = .ok (.sipush 2000, 3) := by decide +kernel
theorem dX10_bestMargin_145 : decode cX10_bestMargin 145 = .ok (.if_icmp .gt 32, 3) := by decide +kernel
theorem dX10_bestMargin_148 : decode cX10_bestMargin 148 = .ok (.iload_n 3, 1) := by decide +kernel
theorem dX10_bestMargin_149 : decode cX10_bestMargin 149 = .ok (.aload_n 0, 1) := by decide +kernel
theorem dX10_bestMargin_150 : decode cX10_bestMargin 150 = .ok (.getfield 52, 3) := by decide +kernel
theorem dX10_bestMargin_153 : decode cX10_bestMargin 153 = .ok (.iload 4, 2) := by decide +kernel
theorem dX10_bestMargin_155 : decode cX10_bestMargin 155 = .ok (.iaload, 1) := by decide +kernel
theorem dX10_bestMargin_156 : decode cX10_bestMargin 156 = .ok (.iadd, 1) := by decide +kernel
theorem dX10_bestMargin_157 : decode cX10_bestMargin 157 = .ok (.istore_n 3, 1) := by decide +kernel
theorem dX10_bestMargin_158 : decode cX10_bestMargin 158 = .ok (.iload_n 3, 1) := by decide +kernel
theorem dX10_bestMargin_159 : decode cX10_bestMargin 159 = .ok (.iload_n 2, 1) := by decide +kernel
theorem dX10_bestMargin_160 : decode cX10_bestMargin 160 = .ok (.if_icmp .lt 6, 3) := by decide +kernel
theorem dX10_bestMargin_163 : decode cX10_bestMargin 163 = .ok (.goto 8, 3) := by decide +kernel
theorem dX10_bestMargin_166 : decode cX10_bestMargin 166 = .ok (.iload 4, 2) := by decide +kernel
theorem dX10_bestMargin_168 : decode cX10_bestMargin 168 = .ok (.istore_n 1, 1) := by decide +kernel
theorem dX10_bestMargin_169 : decode cX10_bestMargin 169 = .ok (.iload_n 3, 1) := by decide +kernel
theorem dX10_bestMargin_170 : decode cX10_bestMargin 170 = .ok (.istore_n 2, 1) := by decide +kernel
theorem dX10_bestMargin_171 : decode cX10_bestMargin 171 = .ok (.iinc 4 1, 3) := by decide +kernel
theorem dX10_bestMargin_174 : decode cX10_bestMargin 174 = .ok (.goto (-34), 3) := by decide +kernel
theorem dX10_bestMargin_177 : decode cX10_bestMargin 177 = .ok (.iload_n 1, 1) := by decide +kernel
theorem dX10_bestMargin_178 : decode cX10_bestMargin 178 = .ok (.ireturn, 1) := by decide +kernel
def fn_X10_bestMargin_171 (N : Nat) (K140 : Mem → Nat → Int32 → Int32 → Int32 → Int32 → Option (Int32 × Mem)) (M : Mem) (a0 : Nat) (x1 : Int32) (x2 : Int32) (x3 : Int32) (x4 : Int32) : Option (Int32 × Mem) :=
  K140 M a0 x1 x2 x3 ((x4 + 1))
set_option maxRecDepth 100000 in
set_option maxHeartbeats 4000000 in
theorem bk_X10_bestMargin_171 {Γ : Gm} {ω : Wd} {k N : Nat} {r : Int32} {M' : Mem} (C : Cx Γ cX10_bestMargin 5 RX10 ω 5 0 0) (hr : Γ.meth.sig.returnType = (some .int)) {K140 : Mem → Nat → Int32 → Int32 → Int32 → Int32 → Option (Int32 × Mem)} (hK140 : ∀ (M : Mem) (a0 : Nat) (x1 : Int32) (x2 : Int32) (x3 : Int32) (x4 : Int32), K140 M a0 x1 x2 x3 x4 = some (r, M') → JJ Γ (QF Γ ω k 0 0 (some (.int r)) M') 5 ω k M 0 0 140 [(0, .ref a0), (1, .int x1), (2, .int x2), (3, .int x3), (4, .int x4)] []) (M : Mem) (a0 : Nat) (x1 : Int32) (x2 : Int32) (x3 : Int32) (x4 : Int32) (h : fn_X10_bestMargin_171 N K140 M a0 x1 x2 x3 x4 = some (r, M')) : JJ Γ (QF Γ ω k 0 0 (some (.int r)) M') 5 ω k M 0 0 171 [(0, .ref a0), (1, .int x1), (2, .int x2), (3, .int x3), (4, .int x4)] [] := by
  unfold fn_X10_bestMargin_171 at h
  refine jv_iinc (v := 1) (lv' := [(4, .int (x4 + 1)), (0, .ref a0), (1, .int x1), (2, .int x2), (3, .int x3)]) C dX10_bestMargin_171 4 rfl (by decide) (by decide) rfl ?_
  refine jv_goto (tgt := 140) C dX10_bestMargin_174 (by decide) ?_
  refine jv_sub [1, 2, 3, 4, 0] rfl ?_
  exact hK140 _ _ _ _ _ _ h
def fn_X10_bestMargin_140 (N : Nat) : Nat → Mem → Nat → Int32 → Int32 → Int32 → Int32 → Option (Int32 × Mem)
  | 0, _, _, _, _, _, _ => none
  | n + 1, M, a0, x1, x2, x3, x4 =>
    if 2000 < x4 then
      some (x1, M)
    else
      (mm_gR M a0 10 28).bind fun b1 =>
      (mm_aI M b1 0 x4).bind fun v2 =>
      if (x3 + v2) < x2 then
        fn_X10_bestMargin_171 N (fn_X10_bestMargin_140 N n) M a0 x4 ((x3 + v2)) ((x3 + v2)) x4
      else
        fn_X10_bestMargin_171 N (fn_X10_bestMargin_140 N n) M a0 x1 x2 ((x3 + v2)) x4
set_option maxRecDepth 100000 in
set_option maxHeartbeats 4000000 in
theorem bk_X10_bestMargin_140 {Γ : Gm} {ω : Wd} {k N : Nat} {r : Int32} {M' : Mem} (C : Cx Γ cX10_bestMargin 5 RX10 ω 5 0 0) (hr : Γ.meth.sig.returnType = (some .int)) : ∀ (n : Nat) (M : Mem) (a0 : Nat) (x1 : Int32) (x2 : Int32) (x3 : Int32) (x4 : Int32), fn_X10_bestMargin_140 N n M a0 x1 x2 x3 x4 = some (r, M') → JJ Γ (QF Γ ω k 0 0 (some (.int r)) M') 5 ω k M 0 0 140 [(0, .ref a0), (1, .int x1), (2, .int x2), (3, .int x3), (4, .int x4)] [] := by
  intro n
  induction n with
  | zero => intro M a0 x1 x2 x3 x4 h; exact jv_no h
  | succ n ih =>
    intro M a0 x1 x2 x3 x4 h
    rw [fn_X10_bestMargin_140.eq_2] at h
    refine jv_iload C dX10_bestMargin_140 4 rfl ?_
    refine jv_sipush (v := 2000) C dX10_bestMargin_142 (by decide) ?_
    refine jv_icmp_gt (tgt := 177) C dX10_bestMargin_145 (by decide) h (fun h => ?_) (fun h => ?_)
    · refine jv_iload_n C dX10_bestMargin_177 rfl 1 rfl ?_
      exact jv_iret C hr dX10_bestMargin_178 h
    · refine jv_iload_n C dX10_bestMargin_148 rfl 3 rfl ?_
      refine jv_aload_n C dX10_bestMargin_149 rfl 0 rfl ?_
      refine jv_getR C fa_X10_52 dX10_bestMargin_150 h (fun b1 h => ?_)
      refine jv_iload C dX10_bestMargin_153 4 rfl ?_
      refine jv_iald C dX10_bestMargin_155 h (fun v2 h => ?_)
      refine jv_iadd C dX10_bestMargin_156 ?_
      refine jv_istore_n (lv' := [(3, .int (x3 + v2)), (0, .ref a0), (1, .int x1), (2, .int x2), (4, .int x4)]) C dX10_bestMargin_157 rfl (by decide) rfl ?_
      refine jv_iload_n C dX10_bestMargin_158 rfl 0 rfl ?_
      refine jv_iload_n C dX10_bestMargin_159 rfl 3 rfl ?_
      refine jv_icmp_lt (tgt := 166) C dX10_bestMargin_160 (by decide) h (fun h => ?_) (fun h => ?_)
      · refine jv_iload C dX10_bestMargin_166 4 rfl ?_
        refine jv_istore_n (lv' := [(1, .int x4), (3, .int (x3 + v2)), (0, .ref a0), (2, .int x2), (4, .int x4)]) C dX10_bestMargin_168 rfl (by decide) rfl ?_
        refine jv_iload_n C dX10_bestMargin_169 rfl 1 rfl ?_
        refine jv_istore_n (lv' := [(2, .int (x3 + v2)), (1, .int x4), (3, .int (x3 + v2)), (0, .ref a0), (4, .int x4)]) C dX10_bestMargin_170 rfl (by decide) rfl ?_
        refine jv_sub [3, 1, 0, 2, 4] rfl ?_
        exact bk_X10_bestMargin_171 C hr ih _ _ _ _ _ _ h
      · refine jv_goto (tgt := 171) C dX10_bestMargin_163 (by decide) ?_
        refine jv_sub [1, 2, 3, 0, 4] rfl ?_
        exact bk_X10_bestMargin_171 C hr ih _ _ _ _ _ _ h
def fn_X10_bestMargin_125 (N : Nat) (K31 : Mem → Nat → Int32 → Option (Int32 × Mem)) (M : Mem) (a0 : Nat) (x1 : Int32) : Option (Int32 × Mem) :=
  K31 M a0 ((x1 + 1))
set_option maxRecDepth 100000 in
set_option maxHeartbeats 4000000 in
theorem bk_X10_bestMargin_125 {Γ : Gm} {ω : Wd} {k N : Nat} {r : Int32} {M' : Mem} (C : Cx Γ cX10_bestMargin 5 RX10 ω 5 0 0) (hr : Γ.meth.sig.returnType = (some .int)) {K31 : Mem → Nat → Int32 → Option (Int32 × Mem)} (hK31 : ∀ (M : Mem) (a0 : Nat) (x1 : Int32), K31 M a0 x1 = some (r, M') → JJ Γ (QF Γ ω k 0 0 (some (.int r)) M') 5 ω k M 0 0 31 [(0, .ref a0), (1, .int x1)] []) (M : Mem) (a0 : Nat) (x1 : Int32) (h : fn_X10_bestMargin_125 N K31 M a0 x1 = some (r, M')) : JJ Γ (QF Γ ω k 0 0 (some (.int r)) M') 5 ω k M 0 0 125 [(0, .ref a0), (1, .int x1)] [] := by
  unfold fn_X10_bestMargin_125 at h
  refine jv_iinc (v := 1) (lv' := [(1, .int (x1 + 1)), (0, .ref a0)]) C dX10_bestMargin_125 1 rfl (by decide) (by decide) rfl ?_
  refine jv_goto (tgt := 31) C dX10_bestMargin_128 (by decide) ?_
  refine jv_sub [1, 0] rfl ?_
  exact hK31 _ _ _ h
def fn_X10_bestMargin_31 (N : Nat) : Nat → Mem → Nat → Int32 → Option (Int32 × Mem)
  | 0, _, _, _ => none
  | n + 1, M, a0, x1 =>
    (mm_gR M a0 10 16).bind fun b1 =>
    (mm_aI M b1 0 9).bind fun v2 =>
    if v2 ≤ x1 then
      fn_X10_bestMargin_140 N N M a0 0 0 0 0
    else
      (mm_gR M a0 10 16).bind fun b3 =>
      (mm_aI M b3 0 ((292 + (3 * x1)) + 2)).bind fun v4 =>
      (mm_ck M a0 10).bind fun _ => mm_b2 (fn_X10_sampleVerdict N M a0 x1 0) fun v6 M5 =>
      if 20 ≤ v6 then
        fn_X10_bestMargin_125 N (fn_X10_bestMargin_31 N n) M5 a0 x1
      else
        (mm_gI M5 a0 10 23).bind fun v7 =>
        if v7 = 1000000 then
          fn_X10_bestMargin_125 N (fn_X10_bestMargin_31 N n) M5 a0 x1
        else
          (mm_gI M5 a0 10 23).bind fun v8 =>
          (mm_gI M5 a0 10 22).bind fun v9 =>
          if 2000 < ((v8 - v9) + 1) then
            fn_X10_bestMargin_125 N (fn_X10_bestMargin_31 N n) M5 a0 x1
          else
            (mm_gR M5 a0 10 28).bind fun b10 =>
            (mm_aI M5 b10 0 ((v8 - v9) + 1)).bind fun v11 =>
            mm_b2 (fn_X10_costOf N M5 21 v4) fun v13 M12 =>
            mm_b2 (fn_X10_costOf N M12 v6 v4) fun v15 M14 =>
            (mm_sI M14 b10 0 ((v8 - v9) + 1) (v11 + (v13 - v15))).bind fun M16 =>
            fn_X10_bestMargin_125 N (fn_X10_bestMargin_31 N n) M16 a0 x1
set_option maxRecDepth 100000 in
set_option maxHeartbeats 4000000 in
theorem bk_X10_bestMargin_31 {Γ : Gm} {ω : Wd} {k N : Nat} {r : Int32} {M' : Mem} (C : Cx Γ cX10_bestMargin 5 RX10 ω 5 0 0) (hr : Γ.meth.sig.returnType = (some .int)) : ∀ (n : Nat) (M : Mem) (a0 : Nat) (x1 : Int32), fn_X10_bestMargin_31 N n M a0 x1 = some (r, M') → JJ Γ (QF Γ ω k 0 0 (some (.int r)) M') 5 ω k M 0 0 31 [(0, .ref a0), (1, .int x1)] [] := by
  intro n
  induction n with
  | zero => intro M a0 x1 h; exact jv_no h
  | succ n ih =>
    intro M a0 x1 h
    rw [fn_X10_bestMargin_31.eq_2] at h
    refine jv_iload_n C dX10_bestMargin_31 rfl 1 rfl ?_
    refine jv_aload_n C dX10_bestMargin_32 rfl 0 rfl ?_
    refine jv_getR C fa_X10_29 dX10_bestMargin_33 h (fun b1 h => ?_)
    refine jv_bipush (v := 9) C dX10_bestMargin_36 (by decide) ?_
    refine jv_iald C dX10_bestMargin_38 h (fun v2 h => ?_)
    refine jv_icmp_ge (tgt := 131) C dX10_bestMargin_39 (by decide) h (fun h => ?_) (fun h => ?_)
    · refine jv_iconst (v := 0) C dX10_bestMargin_131 (by decide) ?_
      refine jv_istore_n (lv' := [(1, .int 0), (0, .ref a0)]) C dX10_bestMargin_132 rfl (by decide) rfl ?_
      refine jv_iconst (v := 0) C dX10_bestMargin_133 (by decide) ?_
      refine jv_istore_n (lv' := [(2, .int 0), (1, .int 0), (0, .ref a0)]) C dX10_bestMargin_134 rfl (by decide) rfl ?_
      refine jv_iconst (v := 0) C dX10_bestMargin_135 (by decide) ?_
      refine jv_istore_n (lv' := [(3, .int 0), (2, .int 0), (1, .int 0), (0, .ref a0)]) C dX10_bestMargin_136 rfl (by decide) rfl ?_
      refine jv_iconst (v := 0) C dX10_bestMargin_137 (by decide) ?_
      refine jv_istore (lv' := [(4, .int 0), (3, .int 0), (2, .int 0), (1, .int 0), (0, .ref a0)]) C dX10_bestMargin_138 (by decide) rfl ?_
      refine jv_sub [4, 3, 2, 1, 0] rfl ?_
      exact bk_X10_bestMargin_140 C hr _ _ _ _ _ _ _ h
    · refine jv_aload_n C dX10_bestMargin_42 rfl 0 rfl ?_
      refine jv_getR C fa_X10_29 dX10_bestMargin_43 h (fun b3 h => ?_)
      refine jv_sipush (v := 292) C dX10_bestMargin_46 (by decide) ?_
      refine jv_iconst (v := 3) C dX10_bestMargin_49 (by decide) ?_
      refine jv_iload_n C dX10_bestMargin_50 rfl 1 rfl ?_
      refine jv_imul C dX10_bestMargin_51 ?_
      refine jv_iadd C dX10_bestMargin_52 ?_
      refine jv_iconst (v := 2) C dX10_bestMargin_53 (by decide) ?_
      refine jv_iadd C dX10_bestMargin_54 ?_
      refine jv_iald C dX10_bestMargin_55 h (fun v4 h => ?_)
      refine jv_istore_n (lv' := [(2, .int v4), (0, .ref a0), (1, .int x1)]) C dX10_bestMargin_56 rfl (by decide) rfl ?_
      refine jv_aload_n C dX10_bestMargin_57 rfl 1 rfl ?_
      refine jv_iload_n C dX10_bestMargin_58 rfl 2 rfl ?_
      refine jv_iconst (v := 0) C dX10_bestMargin_59 (by decide) ?_
      refine jv_vI0 (As := [.int x1, .int 0]) C lk_X10_260 rfl dX10_bestMargin_60 rfl rfl (by decide) (by decide) (by decide) (Nat.le_of_ble_eq_true rfl) h (fun _ _ h => ct_X10_sampleVerdict h) (fun v6 M5 h => ?_)
      refine jv_istore_n (lv' := [(3, .int v6), (2, .int v4), (0, .ref a0), (1, .int x1)]) C dX10_bestMargin_63 rfl (by decide) rfl ?_
      refine jv_iload_n C dX10_bestMargin_64 rfl 0 rfl ?_
      refine jv_bipush (v := 20) C dX10_bestMargin_65 (by decide) ?_
      refine jv_icmp_ge (tgt := 125) C dX10_bestMargin_67 (by decide) h (fun h => ?_) (fun h => ?_)
      · refine jv_sub [2, 3] rfl ?_
        exact bk_X10_bestMargin_125 C hr ih _ _ _ h
      · refine jv_aload_n C dX10_bestMargin_70 rfl 2 rfl ?_
        refine jv_getI C fa_X10_187 dX10_bestMargin_71 h (fun v7 h => ?_)
        refine jv_ldc C gw_1563 dX10_bestMargin_74 ?_
        refine jv_icmp_ne (tgt := 82) C dX10_bestMargin_76 (by decide) h (fun h => ?_) (fun h => ?_)
        · refine jv_aload_n C dX10_bestMargin_82 rfl 2 rfl ?_
          refine jv_getI C fa_X10_187 dX10_bestMargin_83 h (fun v8 h => ?_)
          refine jv_aload_n C dX10_bestMargin_86 rfl 2 rfl ?_
          refine jv_getI C fa_X10_184 dX10_bestMargin_87 h (fun v9 h => ?_)
          refine jv_isub C dX10_bestMargin_90 ?_
          refine jv_iconst (v := 1) C dX10_bestMargin_91 (by decide) ?_
          refine jv_iadd C dX10_bestMargin_92 ?_
          refine jv_istore (lv' := [(4, .int ((v8 - v9) + 1)), (3, .int v6), (2, .int v4), (0, .ref a0), (1, .int x1)]) C dX10_bestMargin_93 (by decide) rfl ?_
          refine jv_iload C dX10_bestMargin_95 0 rfl ?_
          refine jv_sipush (v := 2000) C dX10_bestMargin_97 (by decide) ?_
          refine jv_icmp_gt (tgt := 125) C dX10_bestMargin_100 (by decide) h (fun h => ?_) (fun h => ?_)
          · refine jv_sub [3, 4] rfl ?_
            exact bk_X10_bestMargin_125 C hr ih _ _ _ h
          · refine jv_aload_n C dX10_bestMargin_103 rfl 3 rfl ?_
            refine jv_getR C fa_X10_52 dX10_bestMargin_104 h (fun b10 h => ?_)
            refine jv_iload C dX10_bestMargin_107 0 rfl ?_
            refine jv_dup2 C dX10_bestMargin_109 rfl rfl ?_
            refine jv_iald C dX10_bestMargin_110 h (fun v11 h => ?_)
            refine jv_bipush (v := 21) C dX10_bestMargin_111 (by decide) ?_
            refine jv_iload_n C dX10_bestMargin_113 rfl 2 rfl ?_
            refine jv_sI0 (As := [.int 21, .int v4]) C lk_X10_263 dX10_bestMargin_114 rfl rfl (by decide) (by decide) (by decide) (Nat.le_of_ble_eq_true rfl) h (fun _ _ h => ct_X10_costOf h) (fun v13 M12 h => ?_)
            refine jv_iload_n C dX10_bestMargin_117 rfl 1 rfl ?_
            refine jv_iload_n C dX10_bestMargin_118 rfl 2 rfl ?_
            refine jv_sI0 (As := [.int v6, .int v4]) C lk_X10_263 dX10_bestMargin_119 rfl rfl (by decide) (by decide) (by decide) (Nat.le_of_ble_eq_true rfl) h (fun _ _ h => ct_X10_costOf h) (fun v15 M14 h => ?_)
            refine jv_isub C dX10_bestMargin_122 ?_
            refine jv_iadd C dX10_bestMargin_123 ?_
            refine jv_iast C dX10_bestMargin_124 h (fun M16 h => ?_)
            refine jv_sub [3, 4] rfl ?_
            exact bk_X10_bestMargin_125 C hr ih _ _ _ h
        · refine jv_goto (tgt := 125) C dX10_bestMargin_79 (by decide) ?_
          refine jv_sub [2, 3] rfl ?_
          exact bk_X10_bestMargin_125 C hr ih _ _ _ h
def fn_X10_bestMargin_7 (N : Nat) : Nat → Mem → Nat → Int32 → Option (Int32 × Mem)
  | 0, _, _, _ => none
  | n + 1, M, a0, x1 =>
    (mm_gR M a0 10 28).bind fun b1 =>
    (mm_aN M b1).bind fun v2 =>
    if v2 ≤ x1 then
      fn_X10_bestMargin_31 N N M a0 0
    else
      (mm_gR M a0 10 28).bind fun b3 =>
      (mm_sI M b3 0 x1 0).bind fun M4 =>
      fn_X10_bestMargin_7 N n M4 a0 ((x1 + 1))
set_option maxRecDepth 100000 in
set_option maxHeartbeats 4000000 in
theorem bk_X10_bestMargin_7 {Γ : Gm} {ω : Wd} {k N : Nat} {r : Int32} {M' : Mem} (C : Cx Γ cX10_bestMargin 5 RX10 ω 5 0 0) (hr : Γ.meth.sig.returnType = (some .int)) : ∀ (n : Nat) (M : Mem) (a0 : Nat) (x1 : Int32), fn_X10_bestMargin_7 N n M a0 x1 = some (r, M') → JJ Γ (QF Γ ω k 0 0 (some (.int r)) M') 5 ω k M 0 0 7 [(0, .ref a0), (1, .int x1)] [] := by
  intro n
  induction n with
  | zero => intro M a0 x1 h; exact jv_no h
  | succ n ih =>
    intro M a0 x1 h
    rw [fn_X10_bestMargin_7.eq_2] at h
    refine jv_iload_n C dX10_bestMargin_7 rfl 1 rfl ?_
    refine jv_aload_n C dX10_bestMargin_8 rfl 0 rfl ?_
    refine jv_getR C fa_X10_52 dX10_bestMargin_9 h (fun b1 h => ?_)
    refine jv_alen C dX10_bestMargin_12 h (fun v2 h => ?_)
    refine jv_icmp_ge (tgt := 29) C dX10_bestMargin_13 (by decide) h (fun h => ?_) (fun h => ?_)
    · refine jv_iconst (v := 0) C dX10_bestMargin_29 (by decide) ?_
      refine jv_istore_n (lv' := [(1, .int 0), (0, .ref a0)]) C dX10_bestMargin_30 rfl (by decide) rfl ?_
      refine jv_sub [1, 0] rfl ?_
      exact bk_X10_bestMargin_31 C hr _ _ _ _ h
    · refine jv_aload_n C dX10_bestMargin_16 rfl 0 rfl ?_
      refine jv_getR C fa_X10_52 dX10_bestMargin_17 h (fun b3 h => ?_)
      refine jv_iload_n C dX10_bestMargin_20 rfl 1 rfl ?_
      refine jv_iconst (v := 0) C dX10_bestMargin_21 (by decide) ?_
      refine jv_iast C dX10_bestMargin_22 h (fun M4 h => ?_)
      refine jv_iinc (v := 1) (lv' := [(1, .int (x1 + 1)), (0, .ref a0)]) C dX10_bestMargin_23 1 rfl (by decide) (by decide) rfl ?_
      refine jv_goto (tgt := 7) C dX10_bestMargin_26 (by decide) ?_
      refine jv_sub [1, 0] rfl ?_
      exact ih _ _ _ h
def fn_X10_bestMargin (N : Nat) (M : Mem) (a0 : Nat) : Option (Int32 × Mem) :=
  (mm_pV M a0 10 0 (.int 0)).bind fun M1 =>
  fn_X10_bestMargin_7 N N M1 a0 0
set_option maxRecDepth 100000 in
set_option maxHeartbeats 4000000 in
theorem ct_X10_bestMargin {l : Launch} {ω : Wd} {k N : Nat} {M : Mem} {a0 : Nat} {r : Int32} {M' : Mem} (h : fn_X10_bestMargin N M a0 = some (r, M')) : CM l ω k yX10_bestMargin cX10_bestMargin 5 (some .int) 5 0 0 [.ref a0] M (some (.int r)) M' := by
  refine CM.of (by decide) (Nat.le_of_ble_eq_true rfl) fun Γ hl C hr hi => ?_
  subst hl
  unfold fn_X10_bestMargin at h
  refine jv_aload_n C dX10_bestMargin_0 rfl 0 rfl ?_
  refine jv_iconst (v := 0) C dX10_bestMargin_1 (by decide) ?_
  refine jv_putI C fp_X10_58 dX10_bestMargin_2 h (fun M1 h => ?_)
  refine jv_iconst (v := 0) C dX10_bestMargin_5 (by decide) ?_
  refine jv_istore_n (lv' := [(1, .int 0), (0, .ref a0)]) C dX10_bestMargin_6 rfl (by decide) rfl ?_
  refine jv_sub [1, 0] rfl ?_
  exact bk_X10_bestMargin_7 C hr _ _ _ _ h
theorem dX10_binCoins_0 : decode cX10_binCoins 0 = .ok (.aload_n 0, 1) := by decide +kernel
theorem dX10_binCoins_1 : decode cX10_binCoins 1 = .ok (.aload_n 0, 1) := by decide +kernel
theorem dX10_binCoins_2 : decode cX10_binCoins 2 = .ok (.iload_n 1, 1) := by decide +kernel
theorem dX10_binCoins_3 : decode cX10_binCoins 3 = .ok (.invokevirtual 174, 3) := by decide +kernel
theorem dX10_binCoins_6 : decode cX10_binCoins 6 = .ok (.ifCond .eq 15, 3) := by decide +kernel
theorem dX10_binCoins_9 : decode cX10_binCoins 9 = .ok (.aload_n 0, 1) := by decide +kernel
theorem dX10_binCoins_10 : decode cX10_binCoins 10 = .ok (.getfield 29, 3) := by decide +kernel
theorem dX10_binCoins_13 : decode cX10_binCoins 13 = .ok (.bipush 14, 2) := by decide +kernel
theorem dX10_binCoins_15 : decode cX10_binCoins 15 = .ok (.iload_n 1, 1) := by decide +kernel
theorem dX10_binCoins_16 : decode cX10_binCoins 16 = .ok (.iadd, 1) := by decide +kernel
theorem dX10_binCoins_17 : decode cX10_binCoins 17 = .ok (.iaload, 1) := by decide +kernel
theorem dX10_binCoins_18 : decode cX10_binCoins 18 = .ok (.goto 4, 3) := by decide +kernel
theorem dX10_binCoins_21 : decode cX10_binCoins 21 = .ok (.iconst (-1), 1) := by decide +kernel
theorem dX10_binCoins_22 : decode cX10_binCoins 22 = .ok (.invokevirtual 167, 3) := by decide +kernel
theorem dX10_binCoins_25 : decode cX10_binCoins 25 = .ok (.ireturn, 1) := by decide +kernel
def fn_X10_binCoins (N : Nat) (M : Mem) (a0 : Nat) (x1 : Int32) : Option (Int32 × Mem) :=
  (mm_ck M a0 10).bind fun _ => mm_b2 (fn_X10_isBin N M a0 x1) fun v2 M1 =>
  if v2 = 0 then
    (mm_ck M1 a0 10).bind fun _ => mm_b2 (fn_X10_told N M1 a0 ((-1))) fun v4 M3 =>
    some (v4, M3)
  else
    (mm_gR M1 a0 10 16).bind fun b5 =>
    (mm_aI M1 b5 0 (14 + x1)).bind fun v6 =>
    (mm_ck M1 a0 10).bind fun _ => mm_b2 (fn_X10_told N M1 a0 v6) fun v8 M7 =>
    some (v8, M7)
set_option maxRecDepth 100000 in
set_option maxHeartbeats 4000000 in
theorem ct_X10_binCoins {l : Launch} {ω : Wd} {k N : Nat} {M : Mem} {a0 : Nat} {x1 : Int32} {r : Int32} {M' : Mem} (h : fn_X10_binCoins N M a0 x1 = some (r, M')) : CM l ω k yX10_binCoins cX10_binCoins 2 (some .int) 2 0 0 [.ref a0, .int x1] M (some (.int r)) M' := by
  refine CM.of (by decide) (Nat.le_of_ble_eq_true rfl) fun Γ hl C hr hi => ?_
  subst hl
  unfold fn_X10_binCoins at h
  refine jv_aload_n C dX10_binCoins_0 rfl 0 rfl ?_
  refine jv_aload_n C dX10_binCoins_1 rfl 0 rfl ?_
  refine jv_iload_n C dX10_binCoins_2 rfl 1 rfl ?_
  refine jv_vI0 (As := [.int x1]) C lk_X10_174 rfl dX10_binCoins_3 rfl rfl (by decide) (by decide) (by decide) (Nat.le_of_ble_eq_true rfl) h (fun _ _ h => ct_X10_isBin h) (fun v2 M1 h => ?_)
  refine jv_if_eq (tgt := 21) C dX10_binCoins_6 (by decide) h (fun h => ?_) (fun h => ?_)
  · refine jv_iconst (v := (-1)) C dX10_binCoins_21 (by decide) ?_
    refine jv_vI0 (As := [.int (-1)]) C lk_X10_167 rfl dX10_binCoins_22 rfl rfl (by decide) (by decide) (by decide) (Nat.le_of_ble_eq_true rfl) h (fun _ _ h => ct_X10_told h) (fun v4 M3 h => ?_)
    exact jv_iret C hr dX10_binCoins_25 h
  · refine jv_aload_n C dX10_binCoins_9 rfl 0 rfl ?_
    refine jv_getR C fa_X10_29 dX10_binCoins_10 h (fun b5 h => ?_)
    refine jv_bipush (v := 14) C dX10_binCoins_13 (by decide) ?_
    refine jv_iload_n C dX10_binCoins_15 rfl 1 rfl ?_
    refine jv_iadd C dX10_binCoins_16 ?_
    refine jv_iald C dX10_binCoins_17 h (fun v6 h => ?_)
    refine jv_goto (tgt := 22) C dX10_binCoins_18 (by decide) ?_
    refine jv_vI0 (As := [.int v6]) C lk_X10_167 rfl dX10_binCoins_22 rfl rfl (by decide) (by decide) (by decide) (Nat.le_of_ble_eq_true rfl) h (fun _ _ h => ct_X10_told h) (fun v8 M7 h => ?_)
    exact jv_iret C hr dX10_binCoins_25 h
theorem dX10_binCount_0 : decode cX10_binCount 0 = .ok (.aload_n 0, 1) := by decide +kernel
theorem dX10_binCount_1 : decode cX10_binCount 1 = .ok (.aload_n 0, 1) := by decide +kernel
theorem dX10_binCount_2 : decode cX10_binCount 2 = .ok (.getfield 13, 3) := by decide +kernel
theorem dX10_binCount_5 : decode cX10_binCount 5 = .ok (.iconst 2, 1) := by decide +kernel
theorem dX10_binCount_6 : decode cX10_binCount 6 = .ok (.iaload, 1) := by decide +kernel
theorem dX10_binCount_7 : decode cX10_binCount 7 = .ok (.invokevirtual 167, 3) := by decide +kernel
theorem dX10_binCount_10 : decode cX10_binCount 10 = .ok (.ireturn, 1) := by decide +kernel
def fn_X10_binCount (N : Nat) (M : Mem) (a0 : Nat) : Option (Int32 × Mem) :=
  (mm_gR M a0 10 10).bind fun b1 =>
  (mm_aI M b1 0 2).bind fun v2 =>
  (mm_ck M a0 10).bind fun _ => mm_b2 (fn_X10_told N M a0 v2) fun v4 M3 =>
  some (v4, M3)
set_option maxRecDepth 100000 in
set_option maxHeartbeats 4000000 in
theorem ct_X10_binCount {l : Launch} {ω : Wd} {k N : Nat} {M : Mem} {a0 : Nat} {r : Int32} {M' : Mem} (h : fn_X10_binCount N M a0 = some (r, M')) : CM l ω k yX10_binCount cX10_binCount 1 (some .int) 1 0 0 [.ref a0] M (some (.int r)) M' := by
  refine CM.of (by decide) (Nat.le_of_ble_eq_true rfl) fun Γ hl C hr hi => ?_
  subst hl
  unfold fn_X10_binCount at h
  refine jv_aload_n C dX10_binCount_0 rfl 0 rfl ?_
  refine jv_aload_n C dX10_binCount_1 rfl 0 rfl ?_
  refine jv_getR C fa_X10_13 dX10_binCount_2 h (fun b1 h => ?_)
  refine jv_iconst (v := 2) C dX10_binCount_5 (by decide) ?_
  refine jv_iald C dX10_binCount_6 h (fun v2 h => ?_)
  refine jv_vI0 (As := [.int v2]) C lk_X10_167 rfl dX10_binCount_7 rfl rfl (by decide) (by decide) (by decide) (Nat.le_of_ble_eq_true rfl) h (fun _ _ h => ct_X10_told h) (fun v4 M3 h => ?_)
  exact jv_iret C hr dX10_binCount_10 h
theorem dX10_missing_0 : decode cX10_missing 0 = .ok (.aload_n 0, 1) := by decide +kernel
theorem dX10_missing_1 : decode cX10_missing 1 = .ok (.getfield 26, 3) := by decide +kernel
theorem dX10_missing_4 : decode cX10_missing 4 = .ok (.iload_n 1, 1) := by decide +kernel
theorem dX10_missing_5 : decode cX10_missing 5 = .ok (.iaload, 1) := by decide +kernel
theorem dX10_missing_6 : decode cX10_missing 6 = .ok (.aload_n 0, 1) := by decide +kernel
theorem dX10_missing_7 : decode cX10_missing 7 = .ok (.getfield 29, 3) := by decide +kernel
theorem dX10_missing_10 : decode cX10_missing 10 = .ok (.bipush 14, 2) := by decide +kernel
theorem dX10_missing_12 : decode cX10_missing 12 = .ok (.iload_n 1, 1) := by decide +kernel
theorem dX10_missing_13 : decode cX10_missing 13 = .ok (.iadd, 1) := by decide +kernel
theorem dX10_missing_14 : decode cX10_missing 14 = .ok (.iaload, 1) := by decide +kernel
theorem dX10_missing_15 : decode cX10_missing 15 = .ok (.isub, 1) := by decide +kernel
theorem dX10_missing_16 : decode cX10_missing 16 = .ok (.ireturn, 1) := by decide +kernel
def fn_X10_missing (N : Nat) (M : Mem) (a0 : Nat) (x1 : Int32) : Option (Int32 × Mem) :=
  (mm_gR M a0 10 14).bind fun b1 =>
  (mm_aI M b1 0 x1).bind fun v2 =>
  (mm_gR M a0 10 16).bind fun b3 =>
  (mm_aI M b3 0 (14 + x1)).bind fun v4 =>
  some ((v2 - v4), M)
set_option maxRecDepth 100000 in
set_option maxHeartbeats 4000000 in
theorem ct_X10_missing {l : Launch} {ω : Wd} {k N : Nat} {M : Mem} {a0 : Nat} {x1 : Int32} {r : Int32} {M' : Mem} (h : fn_X10_missing N M a0 x1 = some (r, M')) : CM l ω k yX10_missing cX10_missing 2 (some .int) 0 0 0 [.ref a0, .int x1] M (some (.int r)) M' := by
  refine CM.of (by decide) (Nat.le_of_ble_eq_true rfl) fun Γ hl C hr hi => ?_
  subst hl
  unfold fn_X10_missing at h
  refine jv_aload_n C dX10_missing_0 rfl 0 rfl ?_
  refine jv_getR C fa_X10_26 dX10_missing_1 h (fun b1 h => ?_)
  refine jv_iload_n C dX10_missing_4 rfl 1 rfl ?_
  refine jv_iald C dX10_missing_5 h (fun v2 h => ?_)
  refine jv_aload_n C dX10_missing_6 rfl 0 rfl ?_
  refine jv_getR C fa_X10_29 dX10_missing_7 h (fun b3 h => ?_)
  refine jv_bipush (v := 14) C dX10_missing_10 (by decide) ?_
  refine jv_iload_n C dX10_missing_12 rfl 1 rfl ?_
  refine jv_iadd C dX10_missing_13 ?_
  refine jv_iald C dX10_missing_14 h (fun v4 h => ?_)
  refine jv_isub C dX10_missing_15 ?_
  exact jv_iret C hr dX10_missing_16 h
theorem dX10_roomFor_0 : decode cX10_roomFor 0 = .ok (.bipush (-2), 2) := by decide +kernel
theorem dX10_roomFor_2 : decode cX10_roomFor 2 = .ok (.istore_n 2, 1) := by decide +kernel
theorem dX10_roomFor_3 : decode cX10_roomFor 3 = .ok (.iconst 0, 1) := by decide +kernel
theorem dX10_roomFor_4 : decode cX10_roomFor 4 = .ok (.istore_n 3, 1) := by decide +kernel
theorem dX10_roomFor_5 : decode cX10_roomFor 5 = .ok (.iload_n 3, 1) := by decide +kernel
theorem dX10_roomFor_6 : decode cX10_roomFor 6 = .ok (.aload_n 0, 1) := by decide +kernel
theorem dX10_roomFor_7 : decode cX10_roomFor 7 = .ok (.getfield 13, 3) := by decide +kernel
theorem dX10_roomFor_10 : decode cX10_roomFor 10 = .ok (.iconst 2, 1) := by decide +kernel
theorem dX10_roomFor_11 : decode cX10_roomFor 11 = .ok (.iaload, 1) := by decide +kernel
theorem dX10_roomFor_12 : decode cX10_roomFor 12 = .ok (.if_icmp .ge 46, 3) := by decide +kernel
theorem dX10_roomFor_15 : decode cX10_roomFor 15 = .ok (.aload_n 0, 1) := by decide +kernel
theorem dX10_roomFor_16 : decode cX10_roomFor 16 = .ok (.getfield 23, 3) := by decide +kernel
theorem dX10_roomFor_19 : decode cX10_roomFor 19 = .ok (.iload_n 3, 1) := by decide +kernel
theorem dX10_roomFor_20 : decode cX10_roomFor 20 = .ok (.iaload, 1) := by decide +kernel
theorem dX10_roomFor_21 : decode cX10_roomFor 21 = .ok (.iload_n 1, 1) := by decide +kernel
theorem dX10_roomFor_22 : decode cX10_roomFor 22 = .ok (.if_icmp .ne 30, 3) := by decide +kernel
theorem dX10_roomFor_25 : decode cX10_roomFor 25 = .ok (.aload_n 0, 1) := by decide +kernel
theorem dX10_roomFor_26 : decode cX10_roomFor 26 = .ok (.iload_n 3, 1) := by decide +kernel
theorem dX10_roomFor_27 : decode cX10_roomFor 27 = .ok (.invokevirtual 215, 3) := by decide +kernel
theorem dX10_roomFor_30 : decode cX10_roomFor 30 = .ok (.ifCond .le 22, 3) := by decide +kernel
theorem dX10_roomFor_33 : decode cX10_roomFor 33 = .ok (.iload_n 2, 1) := by decide +kernel
theorem dX10_roomFor_34 : decode cX10_roomFor 34 = .ok (.ifCond .lt 16, 3) := by decide +kernel
theorem dX10_roomFor_37 : decode cX10_roomFor 37 = .ok (.aload_n 0, 1) := by decide +kernel
theorem dX10_roomFor_38 : decode cX10_roomFor 38 = .ok (.iload_n 3, 1) := by decide +kernel
theorem dX10_roomFor_39 : decode cX10_roomFor 39 = .ok (.invokevirtual 215, 3) := by decide +kernel
theorem dX10_roomFor_42 : decode cX10_roomFor 42 = .ok (.aload_n 0, 1) := by decide +kernel
theorem dX10_roomFor_43 : decode cX10_roomFor 43 = .ok (.iload_n 2, 1) := by decide +kernel
theorem dX10_roomFor_44 : decode cX10_roomFor 44 = .ok (.invokevirtual 215, 3) := by decide +kernel
theorem dX10_roomFor_47 : decode cX10_roomFor 47 = .ok (.if_icmp .ge 5, 3) := by decide +kernel
theorem dX10_roomFor_50 : decode cX10_roomFor 50 = .ok (.iload_n 3, 1) := by decide +kernel
theorem dX10_roomFor_51 : decode cX10_roomFor 51 = .ok (.istore_n 2, 1) := by decide +kernel
theorem dX10_roomFor_52 : decode cX10_roomFor 52 = .ok (.iinc 3 1, 3) := by decide +kernel
theorem dX10_roomFor_55 : decode cX10_roomFor 55 = .ok (.goto (-50), 3) := by decide +kernel
theorem dX10_roomFor_58 : decode cX10_roomFor 58 = .ok (.iload_n 2, 1) := by decide +kernel
theorem dX10_roomFor_59 : decode cX10_roomFor 59 = .ok (.ireturn, 1) := by decide +kernel
def fn_X10_roomFor_52 (N : Nat) (K5 : Mem → Nat → Int32 → Int32 → Int32 → Option (Int32 × Mem)) (M : Mem) (a0 : Nat) (x1 : Int32) (x2 : Int32) (x3 : Int32) : Option (Int32 × Mem) :=
  K5 M a0 x1 x2 ((x3 + 1))
set_option maxRecDepth 100000 in
set_option maxHeartbeats 4000000 in
theorem bk_X10_roomFor_52 {Γ : Gm} {ω : Wd} {k N : Nat} {r : Int32} {M' : Mem} (C : Cx Γ cX10_roomFor 4 RX10 ω 1 0 0) (hr : Γ.meth.sig.returnType = (some .int)) {K5 : Mem → Nat → Int32 → Int32 → Int32 → Option (Int32 × Mem)} (hK5 : ∀ (M : Mem) (a0 : Nat) (x1 : Int32) (x2 : Int32) (x3 : Int32), K5 M a0 x1 x2 x3 = some (r, M') → JJ Γ (QF Γ ω k 0 0 (some (.int r)) M') 4 ω k M 0 0 5 [(0, .ref a0), (1, .int x1), (2, .int x2), (3, .int x3)] []) (M : Mem) (a0 : Nat) (x1 : Int32) (x2 : Int32) (x3 : Int32) (h : fn_X10_roomFor_52 N K5 M a0 x1 x2 x3 = some (r, M')) : JJ Γ (QF Γ ω k 0 0 (some (.int r)) M') 4 ω k M 0 0 52 [(0, .ref a0), (1, .int x1), (2, .int x2), (3, .int x3)] [] := by
  unfold fn_X10_roomFor_52 at h
  refine jv_iinc (v := 1) (lv' := [(3, .int (x3 + 1)), (0, .ref a0), (1, .int x1), (2, .int x2)]) C dX10_roomFor_52 3 rfl (by decide) (by decide) rfl ?_
  refine jv_goto (tgt := 5) C dX10_roomFor_55 (by decide) ?_
  refine jv_sub [1, 2, 3, 0] rfl ?_
  exact hK5 _ _ _ _ _ h
def fn_X10_roomFor_50 (N : Nat) (K5 : Mem → Nat → Int32 → Int32 → Int32 → Option (Int32 × Mem)) (M : Mem) (a0 : Nat) (x1 : Int32) (x3 : Int32) : Option (Int32 × Mem) :=
  fn_X10_roomFor_52 N K5 M a0 x1 x3 x3
set_option maxRecDepth 100000 in
set_option maxHeartbeats 4000000 in
theorem bk_X10_roomFor_50 {Γ : Gm} {ω : Wd} {k N : Nat} {r : Int32} {M' : Mem} (C : Cx Γ cX10_roomFor 4 RX10 ω 1 0 0) (hr : Γ.meth.sig.returnType = (some .int)) {K5 : Mem → Nat → Int32 → Int32 → Int32 → Option (Int32 × Mem)} (hK5 : ∀ (M : Mem) (a0 : Nat) (x1 : Int32) (x2 : Int32) (x3 : Int32), K5 M a0 x1 x2 x3 = some (r, M') → JJ Γ (QF Γ ω k 0 0 (some (.int r)) M') 4 ω k M 0 0 5 [(0, .ref a0), (1, .int x1), (2, .int x2), (3, .int x3)] []) (M : Mem) (a0 : Nat) (x1 : Int32) (x3 : Int32) (h : fn_X10_roomFor_50 N K5 M a0 x1 x3 = some (r, M')) : JJ Γ (QF Γ ω k 0 0 (some (.int r)) M') 4 ω k M 0 0 50 [(0, .ref a0), (1, .int x1), (3, .int x3)] [] := by
  unfold fn_X10_roomFor_50 at h
  refine jv_iload_n C dX10_roomFor_50 rfl 2 rfl ?_
  refine jv_istore_n (lv' := [(2, .int x3), (0, .ref a0), (1, .int x1), (3, .int x3)]) C dX10_roomFor_51 rfl (by decide) rfl ?_
  refine jv_sub [1, 2, 0, 3] rfl ?_
  exact bk_X10_roomFor_52 C hr hK5 _ _ _ _ _ h
def fn_X10_roomFor_5 (N : Nat) : Nat → Mem → Nat → Int32 → Int32 → Int32 → Option (Int32 × Mem)
  | 0, _, _, _, _, _ => none
  | n + 1, M, a0, x1, x2, x3 =>
    (mm_gR M a0 10 10).bind fun b1 =>
    (mm_aI M b1 0 2).bind fun v2 =>
    if v2 ≤ x3 then
      some (x2, M)
    else
      (mm_gR M a0 10 13).bind fun b3 =>
      (mm_aI M b3 0 x3).bind fun v4 =>
      if v4 = x1 then
        (mm_ck M a0 10).bind fun _ => mm_b2 (fn_X10_missing N M a0 x3) fun v6 M5 =>
        if v6 ≤ 0 then
          fn_X10_roomFor_52 N (fn_X10_roomFor_5 N n) M5 a0 x1 x2 x3
        else
          if x2 < 0 then
            fn_X10_roomFor_50 N (fn_X10_roomFor_5 N n) M5 a0 x1 x3
          else
            (mm_ck M5 a0 10).bind fun _ => mm_b2 (fn_X10_missing N M5 a0 x3) fun v8 M7 =>
            (mm_ck M7 a0 10).bind fun _ => mm_b2 (fn_X10_missing N M7 a0 x2) fun v10 M9 =>
            if v10 ≤ v8 then
              fn_X10_roomFor_52 N (fn_X10_roomFor_5 N n) M9 a0 x1 x2 x3
            else
              fn_X10_roomFor_50 N (fn_X10_roomFor_5 N n) M9 a0 x1 x3
      else
        fn_X10_roomFor_52 N (fn_X10_roomFor_5 N n) M a0 x1 x2 x3
set_option maxRecDepth 100000 in
set_option maxHeartbeats 4000000 in
theorem bk_X10_roomFor_5 {Γ : Gm} {ω : Wd} {k N : Nat} {r : Int32} {M' : Mem} (C : Cx Γ cX10_roomFor 4 RX10 ω 1 0 0) (hr : Γ.meth.sig.returnType = (some .int)) : ∀ (n : Nat) (M : Mem) (a0 : Nat) (x1 : Int32) (x2 : Int32) (x3 : Int32), fn_X10_roomFor_5 N n M a0 x1 x2 x3 = some (r, M') → JJ Γ (QF Γ ω k 0 0 (some (.int r)) M') 4 ω k M 0 0 5 [(0, .ref a0), (1, .int x1), (2, .int x2), (3, .int x3)] [] := by
  intro n
  induction n with
  | zero => intro M a0 x1 x2 x3 h; exact jv_no h
  | succ n ih =>
    intro M a0 x1 x2 x3 h
    rw [fn_X10_roomFor_5.eq_2] at h
    refine jv_iload_n C dX10_roomFor_5 rfl 3 rfl ?_
    refine jv_aload_n C dX10_roomFor_6 rfl 0 rfl ?_
    refine jv_getR C fa_X10_13 dX10_roomFor_7 h (fun b1 h => ?_)
    refine jv_iconst (v := 2) C dX10_roomFor_10 (by decide) ?_
    refine jv_iald C dX10_roomFor_11 h (fun v2 h => ?_)
    refine jv_icmp_ge (tgt := 58) C dX10_roomFor_12 (by decide) h (fun h => ?_) (fun h => ?_)
    · refine jv_iload_n C dX10_roomFor_58 rfl 2 rfl ?_
      exact jv_iret C hr dX10_roomFor_59 h
    · refine jv_aload_n C dX10_roomFor_15 rfl 0 rfl ?_
      refine jv_getR C fa_X10_23 dX10_roomFor_16 h (fun b3 h => ?_)
      refine jv_iload_n C dX10_roomFor_19 rfl 3 rfl ?_
      refine jv_iald C dX10_roomFor_20 h (fun v4 h => ?_)
      refine jv_iload_n C dX10_roomFor_21 rfl 1 rfl ?_
      refine jv_icmp_ne (tgt := 52) C dX10_roomFor_22 (by decide) h (fun h => ?_) (fun h => ?_)
      · exact bk_X10_roomFor_52 C hr ih _ _ _ _ _ h
      · refine jv_aload_n C dX10_roomFor_25 rfl 0 rfl ?_
        refine jv_iload_n C dX10_roomFor_26 rfl 3 rfl ?_
        refine jv_vI0 (As := [.int x3]) C lk_X10_215 rfl dX10_roomFor_27 rfl rfl (by decide) (by decide) (by decide) (Nat.le_of_ble_eq_true rfl) h (fun _ _ h => ct_X10_missing h) (fun v6 M5 h => ?_)
        refine jv_if_le (tgt := 52) C dX10_roomFor_30 (by decide) h (fun h => ?_) (fun h => ?_)
        · exact bk_X10_roomFor_52 C hr ih _ _ _ _ _ h
        · refine jv_iload_n C dX10_roomFor_33 rfl 2 rfl ?_
          refine jv_if_lt (tgt := 50) C dX10_roomFor_34 (by decide) h (fun h => ?_) (fun h => ?_)
          · refine jv_sub [0, 1, 3] rfl ?_
            exact bk_X10_roomFor_50 C hr ih _ _ _ _ h
          · refine jv_aload_n C dX10_roomFor_37 rfl 0 rfl ?_
            refine jv_iload_n C dX10_roomFor_38 rfl 3 rfl ?_
            refine jv_vI0 (As := [.int x3]) C lk_X10_215 rfl dX10_roomFor_39 rfl rfl (by decide) (by decide) (by decide) (Nat.le_of_ble_eq_true rfl) h (fun _ _ h => ct_X10_missing h) (fun v8 M7 h => ?_)
            refine jv_aload_n C dX10_roomFor_42 rfl 0 rfl ?_
            refine jv_iload_n C dX10_roomFor_43 rfl 2 rfl ?_
            refine jv_vI0 (As := [.int x2]) C lk_X10_215 rfl dX10_roomFor_44 rfl rfl (by decide) (by decide) (by decide) (Nat.le_of_ble_eq_true rfl) h (fun _ _ h => ct_X10_missing h) (fun v10 M9 h => ?_)
            refine jv_icmp_ge (tgt := 52) C dX10_roomFor_47 (by decide) h (fun h => ?_) (fun h => ?_)
            · exact bk_X10_roomFor_52 C hr ih _ _ _ _ _ h
            · refine jv_sub [0, 1, 3] rfl ?_
              exact bk_X10_roomFor_50 C hr ih _ _ _ _ h
def fn_X10_roomFor (N : Nat) (M : Mem) (a0 : Nat) (x1 : Int32) : Option (Int32 × Mem) :=
  fn_X10_roomFor_5 N N M a0 x1 ((-2)) 0
set_option maxRecDepth 100000 in
set_option maxHeartbeats 4000000 in
theorem ct_X10_roomFor {l : Launch} {ω : Wd} {k N : Nat} {M : Mem} {a0 : Nat} {x1 : Int32} {r : Int32} {M' : Mem} (h : fn_X10_roomFor N M a0 x1 = some (r, M')) : CM l ω k yX10_roomFor cX10_roomFor 4 (some .int) 1 0 0 [.ref a0, .int x1] M (some (.int r)) M' := by
  refine CM.of (by decide) (Nat.le_of_ble_eq_true rfl) fun Γ hl C hr hi => ?_
  subst hl
  unfold fn_X10_roomFor at h
  refine jv_bipush (v := (-2)) C dX10_roomFor_0 (by decide) ?_
  refine jv_istore_n (lv' := [(2, .int (-2)), (0, .ref a0), (1, .int x1)]) C dX10_roomFor_2 rfl (by decide) rfl ?_
  refine jv_iconst (v := 0) C dX10_roomFor_3 (by decide) ?_
  refine jv_istore_n (lv' := [(3, .int 0), (2, .int (-2)), (0, .ref a0), (1, .int x1)]) C dX10_roomFor_4 rfl (by decide) rfl ?_
  refine jv_sub [2, 3, 1, 0] rfl ?_
  exact bk_X10_roomFor_5 C hr _ _ _ _ _ _ h
theorem dX10_binFor_0 : decode cX10_binFor 0 = .ok (.aload_n 0, 1) := by decide +kernel
theorem dX10_binFor_1 : decode cX10_binFor 1 = .ok (.aload_n 0, 1) := by decide +kernel
theorem dX10_binFor_2 : decode cX10_binFor 2 = .ok (.iload_n 1, 1) := by decide +kernel
theorem dX10_binFor_3 : decode cX10_binFor 3 = .ok (.invokevirtual 170, 3) := by decide +kernel
theorem dX10_binFor_6 : decode cX10_binFor 6 = .ok (.ifCond .eq 11, 3) := by decide +kernel
theorem dX10_binFor_9 : decode cX10_binFor 9 = .ok (.aload_n 0, 1) := by decide +kernel
theorem dX10_binFor_10 : decode cX10_binFor 10 = .ok (.iload_n 1, 1) := by decide +kernel
theorem dX10_binFor_11 : decode cX10_binFor 11 = .ok (.invokevirtual 218, 3) := by decide +kernel
theorem dX10_binFor_14 : decode cX10_binFor 14 = .ok (.goto 4, 3) := by decide +kernel
theorem dX10_binFor_17 : decode cX10_binFor 17 = .ok (.iconst (-1), 1) := by decide +kernel
theorem dX10_binFor_18 : decode cX10_binFor 18 = .ok (.invokevirtual 167, 3) := by decide +kernel
theorem dX10_binFor_21 : decode cX10_binFor 21 = .ok (.ireturn, 1) := by decide +kernel
def fn_X10_binFor (N : Nat) (M : Mem) (a0 : Nat) (x1 : Int32) : Option (Int32 × Mem) :=
  (mm_ck M a0 10).bind fun _ => mm_b2 (fn_X10_isType N M a0 x1) fun v2 M1 =>
  if v2 = 0 then
    (mm_ck M1 a0 10).bind fun _ => mm_b2 (fn_X10_told N M1 a0 ((-1))) fun v4 M3 =>
    some (v4, M3)
  else
    (mm_ck M1 a0 10).bind fun _ => mm_b2 (fn_X10_roomFor N M1 a0 x1) fun v6 M5 =>
    (mm_ck M5 a0 10).bind fun _ => mm_b2 (fn_X10_told N M5 a0 v6) fun v8 M7 =>
    some (v8, M7)
set_option maxRecDepth 100000 in
set_option maxHeartbeats 4000000 in
theorem ct_X10_binFor {l : Launch} {ω : Wd} {k N : Nat} {M : Mem} {a0 : Nat} {x1 : Int32} {r : Int32} {M' : Mem} (h : fn_X10_binFor N M a0 x1 = some (r, M')) : CM l ω k yX10_binFor cX10_binFor 2 (some .int) 2 0 0 [.ref a0, .int x1] M (some (.int r)) M' := by
  refine CM.of (by decide) (Nat.le_of_ble_eq_true rfl) fun Γ hl C hr hi => ?_
  subst hl
  unfold fn_X10_binFor at h
  refine jv_aload_n C dX10_binFor_0 rfl 0 rfl ?_
  refine jv_aload_n C dX10_binFor_1 rfl 0 rfl ?_
  refine jv_iload_n C dX10_binFor_2 rfl 1 rfl ?_
  refine jv_vI0 (As := [.int x1]) C lk_X10_170 rfl dX10_binFor_3 rfl rfl (by decide) (by decide) (by decide) (Nat.le_of_ble_eq_true rfl) h (fun _ _ h => ct_X10_isType h) (fun v2 M1 h => ?_)
  refine jv_if_eq (tgt := 17) C dX10_binFor_6 (by decide) h (fun h => ?_) (fun h => ?_)
  · refine jv_iconst (v := (-1)) C dX10_binFor_17 (by decide) ?_
    refine jv_vI0 (As := [.int (-1)]) C lk_X10_167 rfl dX10_binFor_18 rfl rfl (by decide) (by decide) (by decide) (Nat.le_of_ble_eq_true rfl) h (fun _ _ h => ct_X10_told h) (fun v4 M3 h => ?_)
    exact jv_iret C hr dX10_binFor_21 h
  · refine jv_aload_n C dX10_binFor_9 rfl 0 rfl ?_
    refine jv_iload_n C dX10_binFor_10 rfl 1 rfl ?_
    refine jv_vI0 (As := [.int x1]) C lk_X10_218 rfl dX10_binFor_11 rfl rfl (by decide) (by decide) (by decide) (Nat.le_of_ble_eq_true rfl) h (fun _ _ h => ct_X10_roomFor h) (fun v6 M5 h => ?_)
    refine jv_goto (tgt := 18) C dX10_binFor_14 (by decide) ?_
    refine jv_vI0 (As := [.int v6]) C lk_X10_167 rfl dX10_binFor_18 rfl rfl (by decide) (by decide) (by decide) (Nat.le_of_ble_eq_true rfl) h (fun _ _ h => ct_X10_told h) (fun v8 M7 h => ?_)
    exact jv_iret C hr dX10_binFor_21 h
theorem dX10_binType_0 : decode cX10_binType 0 = .ok (.aload_n 0, 1) := by decide +kernel
theorem dX10_binType_1 : decode cX10_binType 1 = .ok (.aload_n 0, 1) := by decide +kernel
theorem dX10_binType_2 : decode cX10_binType 2 = .ok (.iload_n 1, 1) := by decide +kernel
theorem dX10_binType_3 : decode cX10_binType 3 = .ok (.invokevirtual 174, 3) := by decide +kernel
theorem dX10_binType_6 : decode cX10_binType 6 = .ok (.ifCond .eq 12, 3) := by decide +kernel
theorem dX10_binType_9 : decode cX10_binType 9 = .ok (.aload_n 0, 1) := by decide +kernel
theorem dX10_binType_10 : decode cX10_binType 10 = .ok (.getfield 23, 3) := by decide +kernel
theorem dX10_binType_13 : decode cX10_binType 13 = .ok (.iload_n 1, 1) := by decide +kernel
theorem dX10_binType_14 : decode cX10_binType 14 = .ok (.iaload, 1) := by decide +kernel
theorem dX10_binType_15 : decode cX10_binType 15 = .ok (.goto 4, 3) := by decide +kernel
theorem dX10_binType_18 : decode cX10_binType 18 = .ok (.iconst (-1), 1) := by decide +kernel
theorem dX10_binType_19 : decode cX10_binType 19 = .ok (.invokevirtual 167, 3) := by decide +kernel
theorem dX10_binType_22 : decode cX10_binType 22 = .ok (.ireturn, 1) := by decide +kernel
def fn_X10_binType (N : Nat) (M : Mem) (a0 : Nat) (x1 : Int32) : Option (Int32 × Mem) :=
  (mm_ck M a0 10).bind fun _ => mm_b2 (fn_X10_isBin N M a0 x1) fun v2 M1 =>
  if v2 = 0 then
    (mm_ck M1 a0 10).bind fun _ => mm_b2 (fn_X10_told N M1 a0 ((-1))) fun v4 M3 =>
    some (v4, M3)
  else
    (mm_gR M1 a0 10 13).bind fun b5 =>
    (mm_aI M1 b5 0 x1).bind fun v6 =>
    (mm_ck M1 a0 10).bind fun _ => mm_b2 (fn_X10_told N M1 a0 v6) fun v8 M7 =>
    some (v8, M7)
set_option maxRecDepth 100000 in
set_option maxHeartbeats 4000000 in
theorem ct_X10_binType {l : Launch} {ω : Wd} {k N : Nat} {M : Mem} {a0 : Nat} {x1 : Int32} {r : Int32} {M' : Mem} (h : fn_X10_binType N M a0 x1 = some (r, M')) : CM l ω k yX10_binType cX10_binType 2 (some .int) 2 0 0 [.ref a0, .int x1] M (some (.int r)) M' := by
  refine CM.of (by decide) (Nat.le_of_ble_eq_true rfl) fun Γ hl C hr hi => ?_
  subst hl
  unfold fn_X10_binType at h
  refine jv_aload_n C dX10_binType_0 rfl 0 rfl ?_
  refine jv_aload_n C dX10_binType_1 rfl 0 rfl ?_
  refine jv_iload_n C dX10_binType_2 rfl 1 rfl ?_
  refine jv_vI0 (As := [.int x1]) C lk_X10_174 rfl dX10_binType_3 rfl rfl (by decide) (by decide) (by decide) (Nat.le_of_ble_eq_true rfl) h (fun _ _ h => ct_X10_isBin h) (fun v2 M1 h => ?_)
  refine jv_if_eq (tgt := 18) C dX10_binType_6 (by decide) h (fun h => ?_) (fun h => ?_)
  · refine jv_iconst (v := (-1)) C dX10_binType_18 (by decide) ?_
    refine jv_vI0 (As := [.int (-1)]) C lk_X10_167 rfl dX10_binType_19 rfl rfl (by decide) (by decide) (by decide) (Nat.le_of_ble_eq_true rfl) h (fun _ _ h => ct_X10_told h) (fun v4 M3 h => ?_)
    exact jv_iret C hr dX10_binType_22 h
  · refine jv_aload_n C dX10_binType_9 rfl 0 rfl ?_
    refine jv_getR C fa_X10_23 dX10_binType_10 h (fun b5 h => ?_)
    refine jv_iload_n C dX10_binType_13 rfl 1 rfl ?_
    refine jv_iald C dX10_binType_14 h (fun v6 h => ?_)
    refine jv_goto (tgt := 19) C dX10_binType_15 (by decide) ?_
    refine jv_vI0 (As := [.int v6]) C lk_X10_167 rfl dX10_binType_19 rfl rfl (by decide) (by decide) (by decide) (Nat.le_of_ble_eq_true rfl) h (fun _ _ h => ct_X10_told h) (fun v8 M7 h => ?_)
    exact jv_iret C hr dX10_binType_22 h
theorem dX10_binValue_0 : decode cX10_binValue 0 = .ok (.iconst 0, 1) := by decide +kernel
theorem dX10_binValue_1 : decode cX10_binValue 1 = .ok (.istore_n 1, 1) := by decide +kernel
theorem dX10_binValue_2 : decode cX10_binValue 2 = .ok (.iconst 0, 1) := by decide +kernel
theorem dX10_binValue_3 : decode cX10_binValue 3 = .ok (.istore_n 2, 1) := by decide +kernel
theorem dX10_binValue_4 : decode cX10_binValue 4 = .ok (.iload_n 2, 1) := by decide +kernel
theorem dX10_binValue_5 : decode cX10_binValue 5 = .ok (.aload_n 0, 1) := by decide +kernel
theorem dX10_binValue_6 : decode cX10_binValue 6 = .ok (.getfield 13, 3) := by decide +kernel
theorem dX10_binValue_9 : decode cX10_binValue 9 = .ok (.iconst 2, 1) := by decide +kernel
theorem dX10_binValue_10 : decode cX10_binValue 10 = .ok (.iaload, 1) := by decide +kernel
theorem dX10_binValue_11 : decode cX10_binValue 11 = .ok (.if_icmp .ge 37, 3) := by decide +kernel
theorem dX10_binValue_14 : decode cX10_binValue 14 = .ok (.iload_n 1, 1) := by decide +kernel
theorem dX10_binValue_15 : decode cX10_binValue 15 = .ok (.aload_n 0, 1) := by decide +kernel
theorem dX10_binValue_16 : decode cX10_binValue 16 = .ok (.getfield 29, 3) := by decide +kernel
theorem dX10_binValue_19 : decode cX10_binValue 19 = .ok (.bipush 14, 2) := by decide +kernel
theorem dX10_binValue_21 : decode cX10_binValue 21 = .ok (.iload_n 2, 1) := by decide +kernel
theorem dX10_binValue_22 : decode cX10_binValue 22 = .ok (.iadd, 1) := by decide +kernel
theorem dX10_binValue_23 : decode cX10_binValue 23 = .ok (.iaload, 1) := by decide +kernel
theorem dX10_binValue_24 : decode cX10_binValue 24 = .ok (.aload_n 0, 1) := by decide +kernel
theorem dX10_binValue_25 : decode cX10_binValue 25 = .ok (.getfield 20, 3) := by decide +kernel
theorem dX10_binValue_28 : decode cX10_binValue 28 = .ok (.iconst 5, 1) := by decide +kernel
theorem dX10_binValue_29 : decode cX10_binValue 29 = .ok (.aload_n 0, 1) := by decide +kernel
theorem dX10_binValue_30 : decode cX10_binValue 30 = .ok (.getfield 23, 3) := by decide +kernel
theorem dX10_binValue_33 : decode cX10_binValue 33 = .ok (.iload_n 2, 1) := by decide +kernel
theorem dX10_binValue_34 : decode cX10_binValue 34 = .ok (.iaload, 1) := by decide +kernel
theorem dX10_binValue_35 : decode cX10_binValue 35 = .ok (.imul, 1) := by decide +kernel
theorem dX10_binValue_36 : decode cX10_binValue 36 = .ok (.iconst 0, 1) := by decide +kernel
theorem dX10_binValue_37 : decode cX10_binValue 37 = .ok (.iadd, 1) := by decide +kernel
theorem dX10_binValue_38 : decode cX10_binValue 38 = .ok (.iaload, 1) := by decide +kernel
theorem dX10_binValue_39 : decode cX10_binValue 39 = .ok (.imul, 1) := by decide +kernel
theorem dX10_binValue_40 : decode cX10_binValue 40 = .ok (.iadd, 1) := by decide +kernel
theorem dX10_binValue_41 : decode cX10_binValue 41 = .ok (.istore_n 1, 1) := by decide +kernel
theorem dX10_binValue_42 : decode cX10_binValue 42 = .ok (.iinc 2 1, 3) := by decide +kernel
theorem dX10_binValue_45 : decode cX10_binValue 45 = .ok (.goto (-41), 3) := by decide +kernel
theorem dX10_binValue_48 : decode cX10_binValue 48 = .ok (.aload_n 0, 1) := by decide +kernel
theorem dX10_binValue_49 : decode cX10_binValue 49 = .ok (.iload_n 1, 1) := by decide +kernel
theorem dX10_binValue_50 : decode cX10_binValue 50 = .ok (.invokevirtual 167, 3) := by decide +kernel
theorem dX10_binValue_53 : decode cX10_binValue 53 = .ok (.ireturn, 1) := by decide +kernel
def fn_X10_binValue_4 (N : Nat) : Nat → Mem → Nat → Int32 → Int32 → Option (Int32 × Mem)
  | 0, _, _, _, _ => none
  | n + 1, M, a0, x1, x2 =>
    (mm_gR M a0 10 10).bind fun b1 =>
    (mm_aI M b1 0 2).bind fun v2 =>
    if v2 ≤ x2 then
      (mm_ck M a0 10).bind fun _ => mm_b2 (fn_X10_told N M a0 x1) fun v4 M3 =>
      some (v4, M3)
    else
      (mm_gR M a0 10 16).bind fun b5 =>
      (mm_aI M b5 0 (14 + x2)).bind fun v6 =>
      (mm_gR M a0 10 12).bind fun b7 =>
      (mm_gR M a0 10 13).bind fun b8 =>
      (mm_aI M b8 0 x2).bind fun v9 =>
      (mm_aI M b7 0 ((5 * v9) + 0)).bind fun v10 =>
      fn_X10_binValue_4 N n M a0 ((x1 + (v6 * v10))) ((x2 + 1))
set_option maxRecDepth 100000 in
set_option maxHeartbeats 4000000 in
theorem bk_X10_binValue_4 {Γ : Gm} {ω : Wd} {k N : Nat} {r : Int32} {M' : Mem} (C : Cx Γ cX10_binValue 3 RX10 ω 1 0 0) (hr : Γ.meth.sig.returnType = (some .int)) : ∀ (n : Nat) (M : Mem) (a0 : Nat) (x1 : Int32) (x2 : Int32), fn_X10_binValue_4 N n M a0 x1 x2 = some (r, M') → JJ Γ (QF Γ ω k 0 0 (some (.int r)) M') 3 ω k M 0 0 4 [(0, .ref a0), (1, .int x1), (2, .int x2)] [] := by
  intro n
  induction n with
  | zero => intro M a0 x1 x2 h; exact jv_no h
  | succ n ih =>
    intro M a0 x1 x2 h
    rw [fn_X10_binValue_4.eq_2] at h
    refine jv_iload_n C dX10_binValue_4 rfl 2 rfl ?_
    refine jv_aload_n C dX10_binValue_5 rfl 0 rfl ?_
    refine jv_getR C fa_X10_13 dX10_binValue_6 h (fun b1 h => ?_)
    refine jv_iconst (v := 2) C dX10_binValue_9 (by decide) ?_
    refine jv_iald C dX10_binValue_10 h (fun v2 h => ?_)
    refine jv_icmp_ge (tgt := 48) C dX10_binValue_11 (by decide) h (fun h => ?_) (fun h => ?_)
    · refine jv_aload_n C dX10_binValue_48 rfl 0 rfl ?_
      refine jv_iload_n C dX10_binValue_49 rfl 1 rfl ?_
      refine jv_vI0 (As := [.int x1]) C lk_X10_167 rfl dX10_binValue_50 rfl rfl (by decide) (by decide) (by decide) (Nat.le_of_ble_eq_true rfl) h (fun _ _ h => ct_X10_told h) (fun v4 M3 h => ?_)
      exact jv_iret C hr dX10_binValue_53 h
    · refine jv_iload_n C dX10_binValue_14 rfl 1 rfl ?_
      refine jv_aload_n C dX10_binValue_15 rfl 0 rfl ?_
      refine jv_getR C fa_X10_29 dX10_binValue_16 h (fun b5 h => ?_)
      refine jv_bipush (v := 14) C dX10_binValue_19 (by decide) ?_
      refine jv_iload_n C dX10_binValue_21 rfl 2 rfl ?_
      refine jv_iadd C dX10_binValue_22 ?_
      refine jv_iald C dX10_binValue_23 h (fun v6 h => ?_)
      refine jv_aload_n C dX10_binValue_24 rfl 0 rfl ?_
      refine jv_getR C fa_X10_20 dX10_binValue_25 h (fun b7 h => ?_)
      refine jv_iconst (v := 5) C dX10_binValue_28 (by decide) ?_
      refine jv_aload_n C dX10_binValue_29 rfl 0 rfl ?_
      refine jv_getR C fa_X10_23 dX10_binValue_30 h (fun b8 h => ?_)
      refine jv_iload_n C dX10_binValue_33 rfl 2 rfl ?_
      refine jv_iald C dX10_binValue_34 h (fun v9 h => ?_)
      refine jv_imul C dX10_binValue_35 ?_
      refine jv_iconst (v := 0) C dX10_binValue_36 (by decide) ?_
      refine jv_iadd C dX10_binValue_37 ?_
      refine jv_iald C dX10_binValue_38 h (fun v10 h => ?_)
      refine jv_imul C dX10_binValue_39 ?_
      refine jv_iadd C dX10_binValue_40 ?_
      refine jv_istore_n (lv' := [(1, .int (x1 + (v6 * v10))), (0, .ref a0), (2, .int x2)]) C dX10_binValue_41 rfl (by decide) rfl ?_
      refine jv_iinc (v := 1) (lv' := [(2, .int (x2 + 1)), (1, .int (x1 + (v6 * v10))), (0, .ref a0)]) C dX10_binValue_42 2 rfl (by decide) (by decide) rfl ?_
      refine jv_goto (tgt := 4) C dX10_binValue_45 (by decide) ?_
      refine jv_sub [2, 1, 0] rfl ?_
      exact ih _ _ _ _ h
def fn_X10_binValue (N : Nat) (M : Mem) (a0 : Nat) : Option (Int32 × Mem) :=
  fn_X10_binValue_4 N N M a0 0 0
set_option maxRecDepth 100000 in
set_option maxHeartbeats 4000000 in
theorem ct_X10_binValue {l : Launch} {ω : Wd} {k N : Nat} {M : Mem} {a0 : Nat} {r : Int32} {M' : Mem} (h : fn_X10_binValue N M a0 = some (r, M')) : CM l ω k yX10_binValue cX10_binValue 3 (some .int) 1 0 0 [.ref a0] M (some (.int r)) M' := by
  refine CM.of (by decide) (Nat.le_of_ble_eq_true rfl) fun Γ hl C hr hi => ?_
  subst hl
  unfold fn_X10_binValue at h
  refine jv_iconst (v := 0) C dX10_binValue_0 (by decide) ?_
  refine jv_istore_n (lv' := [(1, .int 0), (0, .ref a0)]) C dX10_binValue_1 rfl (by decide) rfl ?_
  refine jv_iconst (v := 0) C dX10_binValue_2 (by decide) ?_
  refine jv_istore_n (lv' := [(2, .int 0), (1, .int 0), (0, .ref a0)]) C dX10_binValue_3 rfl (by decide) rfl ?_
  refine jv_sub [2, 1, 0] rfl ?_
  exact bk_X10_binValue_4 C hr _ _ _ _ _ h
theorem dX10_byteAt_0 : decode cX10_byteAt 0 = .ok (.iload_n 1, 1) := by decide +kernel
theorem dX10_byteAt_1 : decode cX10_byteAt 1 = .ok (.aload_n 0, 1) := by decide +kernel
theorem dX10_byteAt_2 : decode cX10_byteAt 2 = .ok (.getfield 69, 3) := by decide +kernel
theorem dX10_byteAt_5 : decode cX10_byteAt 5 = .ok (.if_icmp .ge 16, 3) := by decide +kernel
theorem dX10_byteAt_8 : decode cX10_byteAt 8 = .ok (.aload_n 0, 1) := by decide +kernel
theorem dX10_byteAt_9 : decode cX10_byteAt 9 = .ok (.getfield 7, 3) := by decide +kernel
theorem dX10_byteAt_12 : decode cX10_byteAt 12 = .ok (.iload_n 1, 1) := by decide +kernel
theorem dX10_byteAt_13 : decode cX10_byteAt 13 = .ok (.baload, 1) := by decide +kernel
theorem dX10_byteAt_14 : decode cX10_byteAt 14 = .ok (.sipush 255, 3) := by decide +kernel
theorem dX10_byteAt_17 : decode cX10_byteAt 17 = .ok (.iand, 1) := by decide +kernel
theorem dX10_byteAt_18 : decode cX10_byteAt 18 = .ok (.goto 4, 3) := by decide +kernel
theorem dX10_byteAt_21 : decode cX10_byteAt 21 = .ok (.iconst (-1), 1) := by decide +kernel
theorem dX10_byteAt_22 : decode cX10_byteAt 22 = .ok (.ireturn, 1) := by decide +kernel
def fn_X10_byteAt (N : Nat) (M : Mem) (a0 : Nat) (x1 : Int32) : Option (Int32 × Mem) :=
  (mm_gI M a0 10 3).bind fun v1 =>
  if v1 ≤ x1 then
    some ((-1), M)
  else
    (mm_gR M a0 10 1).bind fun b2 =>
    (mm_aI M b2 2 x1).bind fun v3 =>
    some ((v3 &&& 255), M)
set_option maxRecDepth 100000 in
set_option maxHeartbeats 4000000 in
theorem ct_X10_byteAt {l : Launch} {ω : Wd} {k N : Nat} {M : Mem} {a0 : Nat} {x1 : Int32} {r : Int32} {M' : Mem} (h : fn_X10_byteAt N M a0 x1 = some (r, M')) : CM l ω k yX10_byteAt cX10_byteAt 2 (some .int) 0 0 0 [.ref a0, .int x1] M (some (.int r)) M' := by
  refine CM.of (by decide) (Nat.le_of_ble_eq_true rfl) fun Γ hl C hr hi => ?_
  subst hl
  unfold fn_X10_byteAt at h
  refine jv_iload_n C dX10_byteAt_0 rfl 1 rfl ?_
  refine jv_aload_n C dX10_byteAt_1 rfl 0 rfl ?_
  refine jv_getI C fa_X10_69 dX10_byteAt_2 h (fun v1 h => ?_)
  refine jv_icmp_ge (tgt := 21) C dX10_byteAt_5 (by decide) h (fun h => ?_) (fun h => ?_)
  · refine jv_iconst (v := (-1)) C dX10_byteAt_21 (by decide) ?_
    exact jv_iret C hr dX10_byteAt_22 h
  · refine jv_aload_n C dX10_byteAt_8 rfl 0 rfl ?_
    refine jv_getR C fa_X10_7 dX10_byteAt_9 h (fun b2 h => ?_)
    refine jv_iload_n C dX10_byteAt_12 rfl 1 rfl ?_
    refine jv_bald C dX10_byteAt_13 h (fun v3 h => ?_)
    refine jv_sipush (v := 255) C dX10_byteAt_14 (by decide) ?_
    refine jv_iand C dX10_byteAt_17 ?_
    refine jv_goto (tgt := 22) C dX10_byteAt_18 (by decide) ?_
    exact jv_iret C hr dX10_byteAt_22 h
theorem dX10_calibrate_0 : decode cX10_calibrate 0 = .ok (.aload_n 0, 1) := by decide +kernel
theorem dX10_calibrate_1 : decode cX10_calibrate 1 = .ok (.iconst 0, 1) := by decide +kernel
theorem dX10_calibrate_2 : decode cX10_calibrate 2 = .ok (.putfield 58, 3) := by decide +kernel
theorem dX10_calibrate_5 : decode cX10_calibrate 5 = .ok (.aload_n 0, 1) := by decide +kernel
theorem dX10_calibrate_6 : decode cX10_calibrate 6 = .ok (.iload_n 1, 1) := by decide +kernel
theorem dX10_calibrate_7 : decode cX10_calibrate 7 = .ok (.invokevirtual 170, 3) := by decide +kernel
theorem dX10_calibrate_10 : decode cX10_calibrate 10 = .ok (.ifCond .eq 11, 3) := by decide +kernel
theorem dX10_calibrate_13 : decode cX10_calibrate 13 = .ok (.iload_n 2, 1) := by decide +kernel
theorem dX10_calibrate_14 : decode cX10_calibrate 14 = .ok (.iload_n 3, 1) := by decide +kernel
theorem dX10_calibrate_15 : decode cX10_calibrate 15 = .ok (.invokestatic 208, 3) := by decide +kernel
theorem dX10_calibrate_18 : decode cX10_calibrate 18 = .ok (.ifCond .ne 5, 3) := by decide +kernel
theorem dX10_calibrate_21 : decode cX10_calibrate 21 = .ok (.iconst 0, 1) := by decide +kernel
theorem dX10_calibrate_22 : decode cX10_calibrate 22 = .ok (.ireturn, 1) := by decide +kernel
theorem dX10_calibrate_23 : decode cX10_calibrate 23 = .ok (.aload_n 0, 1) := by decide +kernel
theorem dX10_calibrate_24 : decode cX10_calibrate 24 = .ok (.invokevirtual 271, 3) := by decide +kernel
theorem dX10_calibrate_27 : decode cX10_calibrate 27 = .ok (.aload_n 0, 1) := by decide +kernel
theorem dX10_calibrate_28 : decode cX10_calibrate 28 = .ok (.getfield 29, 3) := by decide +kernel
theorem dX10_calibrate_31 : decode cX10_calibrate 31 = .ok (.iconst 0, 1) := by decide +kernel
theorem dX10_calibrate_32 : decode cX10_calibrate 32 = .ok (.aload_n 0, 1) := by decide +kernel
theorem dX10_calibrate_33 : decode cX10_calibrate 33 = .ok (.getfield 20, 3) := by decide +kernel
theorem dX10_calibrate_36 : decode cX10_calibrate 36 = .ok (.iconst 5, 1) := by decide +kernel
theorem dX10_calibrate_37 : decode cX10_calibrate 37 = .ok (.iload_n 1, 1) := by decide +kernel
theorem dX10_calibrate_38 : decode cX10_calibrate 38 = .ok (.imul, 1) := by decide +kernel
theorem dX10_calibrate_39 : decode cX10_calibrate 39 = .ok (.iconst 1, 1) := by decide +kernel
theorem dX10_calibrate_40 : decode cX10_calibrate 40 = .ok (.iadd, 1) := by decide +kernel
theorem dX10_calibrate_41 : decode cX10_calibrate 41 = .ok (.iaload, 1) := by decide +kernel
theorem dX10_calibrate_42 : decode cX10_calibrate 42 = .ok (.iload_n 2, 1) := by decide +kernel
theorem dX10_calibrate_43 : decode cX10_calibrate 43 = .ok (.isub, 1) := by decide +kernel
theorem dX10_calibrate_44 : decode cX10_calibrate 44 = .ok (.iastore, 1) := by decide +kernel
theorem dX10_calibrate_45 : decode cX10_calibrate 45 = .ok (.aload_n 0, 1) := by decide +kernel
theorem dX10_calibrate_46 : decode cX10_calibrate 46 = .ok (.getfield 29, 3) := by decide +kernel
theorem dX10_calibrate_49 : decode cX10_calibrate 49 = .ok (.iconst 1, 1) := by decide +kernel
theorem dX10_calibrate_50 : decode cX10_calibrate 50 = .ok (.aload_n 0, 1) := by decide +kernel
theorem dX10_calibrate_51 : decode cX10_calibrate 51 = .ok (.getfield 20, 3) := by decide +kernel
theorem dX10_calibrate_54 : decode cX10_calibrate 54 = .ok (.iconst 5, 1) := by decide +kernel
theorem dX10_calibrate_55 : decode cX10_calibrate 55 = .ok (.iload_n 1, 1) := by decide +kernel
theorem dX10_calibrate_56 : decode cX10_calibrate 56 = .ok (.imul, 1) := by decide +kernel
theorem dX10_calibrate_57 : decode cX10_calibrate 57 = .ok (.iconst 3, 1) := by decide +kernel
theorem dX10_calibrate_58 : decode cX10_calibrate 58 = .ok (.iadd, 1) := by decide +kernel
theorem dX10_calibrate_59 : decode cX10_calibrate 59 = .ok (.iaload, 1) := by decide +kernel
theorem dX10_calibrate_60 : decode cX10_calibrate 60 = .ok (.iload_n 3, 1) := by decide +kernel
theorem dX10_calibrate_61 : decode cX10_calibrate 61 = .ok (.isub, 1) := by decide +kernel
theorem dX10_calibrate_62 : decode cX10_calibrate 62 = .ok (.iastore, 1) := by decide +kernel
theorem dX10_calibrate_63 : decode cX10_calibrate 63 = .ok (.iconst 1, 1) := by decide +kernel
theorem dX10_calibrate_64 : decode cX10_calibrate 64 = .ok (.ireturn, 1) := by decide +kernel
def fn_X10_calibrate (N : Nat) (M : Mem) (a0 : Nat) (x1 : Int32) (x2 : Int32) (x3 : Int32) : Option (Int32 × Mem) :=
  (mm_pV M a0 10 0 (.int 0)).bind fun M1 =>
  (mm_ck M1 a0 10).bind fun _ => mm_b2 (fn_X10_isType N M1 a0 x1) fun v3 M2 =>
  if v3 = 0 then
    some (0, M2)
  else
    mm_b2 (fn_X10_isCoin N M2 x2 x3) fun v5 M4 =>
    if v5 = 0 then
      some (0, M4)
    else
      (mm_ck M4 a0 10).bind fun _ => mm_b2 (fn_X10_keep N M4 a0) fun _ M6 =>
      (mm_gR M6 a0 10 16).bind fun b7 =>
      (mm_gR M6 a0 10 12).bind fun b8 =>
      (mm_aI M6 b8 0 ((5 * x1) + 1)).bind fun v9 =>
      (mm_sI M6 b7 0 0 (v9 - x2)).bind fun M10 =>
      (mm_gR M10 a0 10 16).bind fun b11 =>
      (mm_gR M10 a0 10 12).bind fun b12 =>
      (mm_aI M10 b12 0 ((5 * x1) + 3)).bind fun v13 =>
      (mm_sI M10 b11 0 1 (v13 - x3)).bind fun M14 =>
      some (1, M14)
set_option maxRecDepth 100000 in
set_option maxHeartbeats 4000000 in
theorem ct_X10_calibrate {l : Launch} {ω : Wd} {k N : Nat} {M : Mem} {a0 : Nat} {x1 : Int32} {x2 : Int32} {x3 : Int32} {r : Int32} {M' : Mem} (h : fn_X10_calibrate N M a0 x1 x2 x3 = some (r, M')) : CM l ω k yX10_calibrate cX10_calibrate 4 (some .boolean) 2 0 0 [.ref a0, .int x1, .int x2, .int x3] M (some (.int r)) M' := by
  refine CM.of (by decide) (Nat.le_of_ble_eq_true rfl) fun Γ hl C hr hi => ?_
  subst hl
  unfold fn_X10_calibrate at h
  refine jv_aload_n C dX10_calibrate_0 rfl 0 rfl ?_
  refine jv_iconst (v := 0) C dX10_calibrate_1 (by decide) ?_
  refine jv_putI C fp_X10_58 dX10_calibrate_2 h (fun M1 h => ?_)
  refine jv_aload_n C dX10_calibrate_5 rfl 0 rfl ?_
  refine jv_iload_n C dX10_calibrate_6 rfl 1 rfl ?_
  refine jv_vI0 (As := [.int x1]) C lk_X10_170 rfl dX10_calibrate_7 rfl rfl (by decide) (by decide) (by decide) (Nat.le_of_ble_eq_true rfl) h (fun _ _ h => ct_X10_isType h) (fun v3 M2 h => ?_)
  refine jv_if_eq (tgt := 21) C dX10_calibrate_10 (by decide) h (fun h => ?_) (fun h => ?_)
  · refine jv_iconst (v := 0) C dX10_calibrate_21 (by decide) ?_
    exact jv_zretc C hr (Or.inl rfl) dX10_calibrate_22 h
  · refine jv_iload_n C dX10_calibrate_13 rfl 2 rfl ?_
    refine jv_iload_n C dX10_calibrate_14 rfl 3 rfl ?_
    refine jv_sI0 (As := [.int x2, .int x3]) C lk_X10_208 dX10_calibrate_15 rfl rfl (by decide) (by decide) (by decide) (Nat.le_of_ble_eq_true rfl) h (fun _ _ h => ct_X10_isCoin h) (fun v5 M4 h => ?_)
    refine jv_if_ne (tgt := 23) C dX10_calibrate_18 (by decide) h (fun h => ?_) (fun h => ?_)
    · refine jv_aload_n C dX10_calibrate_23 rfl 0 rfl ?_
      refine jv_vV0 (As := []) C lk_X10_271 rfl dX10_calibrate_24 rfl rfl (by decide) (by decide) (by decide) (Nat.le_of_ble_eq_true rfl) h (fun _ _ h => ct_X10_keep h) (fun _ M6 h => ?_)
      refine jv_aload_n C dX10_calibrate_27 rfl 0 rfl ?_
      refine jv_getR C fa_X10_29 dX10_calibrate_28 h (fun b7 h => ?_)
      refine jv_iconst (v := 0) C dX10_calibrate_31 (by decide) ?_
      refine jv_aload_n C dX10_calibrate_32 rfl 0 rfl ?_
      refine jv_getR C fa_X10_20 dX10_calibrate_33 h (fun b8 h => ?_)
      refine jv_iconst (v := 5) C dX10_calibrate_36 (by decide) ?_
      refine jv_iload_n C dX10_calibrate_37 rfl 1 rfl ?_
      refine jv_imul C dX10_calibrate_38 ?_
      refine jv_iconst (v := 1) C dX10_calibrate_39 (by decide) ?_
      refine jv_iadd C dX10_calibrate_40 ?_
      refine jv_iald C dX10_calibrate_41 h (fun v9 h => ?_)
      refine jv_iload_n C dX10_calibrate_42 rfl 2 rfl ?_
      refine jv_isub C dX10_calibrate_43 ?_
      refine jv_iast C dX10_calibrate_44 h (fun M10 h => ?_)
      refine jv_aload_n C dX10_calibrate_45 rfl 0 rfl ?_
      refine jv_getR C fa_X10_29 dX10_calibrate_46 h (fun b11 h => ?_)
      refine jv_iconst (v := 1) C dX10_calibrate_49 (by decide) ?_
      refine jv_aload_n C dX10_calibrate_50 rfl 0 rfl ?_
      refine jv_getR C fa_X10_20 dX10_calibrate_51 h (fun b12 h => ?_)
      refine jv_iconst (v := 5) C dX10_calibrate_54 (by decide) ?_
      refine jv_iload_n C dX10_calibrate_55 rfl 1 rfl ?_
      refine jv_imul C dX10_calibrate_56 ?_
      refine jv_iconst (v := 3) C dX10_calibrate_57 (by decide) ?_
      refine jv_iadd C dX10_calibrate_58 ?_
      refine jv_iald C dX10_calibrate_59 h (fun v13 h => ?_)
      refine jv_iload_n C dX10_calibrate_60 rfl 3 rfl ?_
      refine jv_isub C dX10_calibrate_61 ?_
      refine jv_iast C dX10_calibrate_62 h (fun M14 h => ?_)
      refine jv_iconst (v := 1) C dX10_calibrate_63 (by decide) ?_
      exact jv_zretc C hr (Or.inr rfl) dX10_calibrate_64 h
    · refine jv_iconst (v := 0) C dX10_calibrate_21 (by decide) ?_
      exact jv_zretc C hr (Or.inl rfl) dX10_calibrate_22 h
theorem dX10_changeBag_0 : decode cX10_changeBag 0 = .ok (.aload_n 0, 1) := by decide +kernel
theorem dX10_changeBag_1 : decode cX10_changeBag 1 = .ok (.iconst 0, 1) := by decide +kernel
theorem dX10_changeBag_2 : decode cX10_changeBag 2 = .ok (.putfield 58, 3) := by decide +kernel
theorem dX10_changeBag_5 : decode cX10_changeBag 5 = .ok (.aload_n 0, 1) := by decide +kernel
theorem dX10_changeBag_6 : decode cX10_changeBag 6 = .ok (.iload_n 1, 1) := by decide +kernel
theorem dX10_changeBag_7 : decode cX10_changeBag 7 = .ok (.invokevirtual 174, 3) := by decide +kernel
theorem dX10_changeBag_10 : decode cX10_changeBag 10 = .ok (.ifCond .ne 5, 3) := by decide +kernel
theorem dX10_changeBag_13 : decode cX10_changeBag 13 = .ok (.iconst (-1), 1) := by decide +kernel
theorem dX10_changeBag_14 : decode cX10_changeBag 14 = .ok (.ireturn, 1) := by decide +kernel
theorem dX10_changeBag_15 : decode cX10_changeBag 15 = .ok (.aload_n 0, 1) := by decide +kernel
theorem dX10_changeBag_16 : decode cX10_changeBag 16 = .ok (.getfield 29, 3) := by decide +kernel
theorem dX10_changeBag_19 : decode cX10_changeBag 19 = .ok (.bipush 14, 2) := by decide +kernel
theorem dX10_changeBag_21 : decode cX10_changeBag 21 = .ok (.iload_n 1, 1) := by decide +kernel
theorem dX10_changeBag_22 : decode cX10_changeBag 22 = .ok (.iadd, 1) := by decide +kernel
theorem dX10_changeBag_23 : decode cX10_changeBag 23 = .ok (.iaload, 1) := by decide +kernel
theorem dX10_changeBag_24 : decode cX10_changeBag 24 = .ok (.ifCond .ne 6, 3) := by decide +kernel
theorem dX10_changeBag_27 : decode cX10_changeBag 27 = .ok (.bipush (-2), 2) := by decide +kernel
theorem dX10_changeBag_29 : decode cX10_changeBag 29 = .ok (.ireturn, 1) := by decide +kernel
theorem dX10_changeBag_30 : decode cX10_changeBag 30 = .ok (.aload_n 0, 1) := by decide +kernel
theorem dX10_changeBag_31 : decode cX10_changeBag 31 = .ok (.getfield 29, 3) := by decide +kernel
theorem dX10_changeBag_34 : decode cX10_changeBag 34 = .ok (.bipush 8, 2) := by decide +kernel
theorem dX10_changeBag_36 : decode cX10_changeBag 36 = .ok (.iaload, 1) := by decide +kernel
theorem dX10_changeBag_37 : decode cX10_changeBag 37 = .ok (.bipush 30, 2) := by decide +kernel
theorem dX10_changeBag_39 : decode cX10_changeBag 39 = .ok (.if_icmp .ne 6, 3) := by decide +kernel
theorem dX10_changeBag_42 : decode cX10_changeBag 42 = .ok (.bipush (-3), 2) := by decide +kernel
theorem dX10_changeBag_44 : decode cX10_changeBag 44 = .ok (.ireturn, 1) := by decide +kernel
theorem dX10_changeBag_45 : decode cX10_changeBag 45 = .ok (.aload_n 0, 1) := by decide +kernel
theorem dX10_changeBag_46 : decode cX10_changeBag 46 = .ok (.invokevirtual 271, 3) := by decide +kernel
theorem dX10_changeBag_49 : decode cX10_changeBag 49 = .ok (.aload_n 0, 1) := by decide +kernel
theorem dX10_changeBag_50 : decode cX10_changeBag 50 = .ok (.getfield 29, 3) := by decide +kernel
theorem dX10_changeBag_53 : decode cX10_changeBag 53 = .ok (.bipush 8, 2) := by decide +kernel
theorem dX10_changeBag_55 : decode cX10_changeBag 55 = .ok (.iaload, 1) := by decide +kernel
theorem dX10_changeBag_56 : decode cX10_changeBag 56 = .ok (.istore_n 2, 1) := by decide +kernel
theorem dX10_changeBag_57 : decode cX10_changeBag 57 = .ok (.aload_n 0, 1) := by decide +kernel
theorem dX10_changeBag_58 : decode cX10_changeBag 58 = .ok (.getfield 29, 3) := by decide +kernel
theorem dX10_changeBag_61 : decode cX10_changeBag 61 = .ok (.sipush 202, 3) := by decide +kernel
theorem dX10_changeBag_64 : decode cX10_changeBag 64 = .ok (.iload_n 2, 1) := by decide +kernel
theorem dX10_changeBag_65 : decode cX10_changeBag 65 = .ok (.iadd, 1) := by decide +kernel
theorem dX10_changeBag_66 : decode cX10_changeBag 66 = .ok (.aload_n 0, 1) := by decide +kernel
theorem dX10_changeBag_67 : decode cX10_changeBag 67 = .ok (.getfield 23, 3) := by decide +kernel
theorem dX10_changeBag_70 : decode cX10_changeBag 70 = .ok (.iload_n 1, 1) := by decide +kernel
theorem dX10_changeBag_71 : decode cX10_changeBag 71 = .ok (.iaload, 1) := by decide +kernel
theorem dX10_changeBag_72 : decode cX10_changeBag 72 = .ok (.iastore, 1) := by decide +kernel
theorem dX10_changeBag_73 : decode cX10_changeBag 73 = .ok (.aload_n 0, 1) := by decide +kernel
theorem dX10_changeBag_74 : decode cX10_changeBag 74 = .ok (.getfield 29, 3) := by decide +kernel
theorem dX10_changeBag_77 : decode cX10_changeBag 77 = .ok (.sipush 232, 3) := by decide +kernel
theorem dX10_changeBag_80 : decode cX10_changeBag 80 = .ok (.iload_n 2, 1) := by decide +kernel
theorem dX10_changeBag_81 : decode cX10_changeBag 81 = .ok (.iadd, 1) := by decide +kernel
theorem dX10_changeBag_82 : decode cX10_changeBag 82 = .ok (.aload_n 0, 1) := by decide +kernel
theorem dX10_changeBag_83 : decode cX10_changeBag 83 = .ok (.getfield 29, 3) := by decide +kernel
theorem dX10_changeBag_86 : decode cX10_changeBag 86 = .ok (.bipush 14, 2) := by decide +kernel
theorem dX10_changeBag_88 : decode cX10_changeBag 88 = .ok (.iload_n 1, 1) := by decide +kernel
theorem dX10_changeBag_89 : decode cX10_changeBag 89 = .ok (.iadd, 1) := by decide +kernel
theorem dX10_changeBag_90 : decode cX10_changeBag 90 = .ok (.iaload, 1) := by decide +kernel
theorem dX10_changeBag_91 : decode cX10_changeBag 91 = .ok (.iastore, 1) := by decide +kernel
theorem dX10_changeBag_92 : decode cX10_changeBag 92 = .ok (.aload_n 0, 1) := by decide +kernel
theorem dX10_changeBag_93 : decode cX10_changeBag 93 = .ok (.getfield 29, 3) := by decide +kernel
theorem dX10_changeBag_96 : decode cX10_changeBag 96 = .ok (.sipush 262, 3) := by decide +kernel
theorem dX10_changeBag_99 : decode cX10_changeBag 99 = .ok (.iload_n 2, 1) := by decide +kernel
theorem dX10_changeBag_100 : decode cX10_changeBag 100 = .ok (.iadd, 1) := by decide +kernel
theorem dX10_changeBag_101 : decode cX10_changeBag 101 = .ok (.iconst 0, 1) := by decide +kernel
theorem dX10_changeBag_102 : decode cX10_changeBag 102 = .ok (.iastore, 1) := by decide +kernel
theorem dX10_changeBag_103 : decode cX10_changeBag 103 = .ok (.aload_n 0, 1) := by decide +kernel
theorem dX10_changeBag_104 : decode cX10_changeBag 104 = .ok (.getfield 29, 3) := by decide +kernel
theorem dX10_changeBag_107 : decode cX10_changeBag 107 = .ok (.bipush 14, 2) := by decide +kernel
theorem dX10_changeBag_109 : decode cX10_changeBag 109 = .ok (.iload_n 1, 1) := by decide +kernel
theorem dX10_changeBag_110 : decode cX10_changeBag 110 = .ok (.iadd, 1) := by decide +kernel
theorem dX10_changeBag_111 : decode cX10_changeBag 111 = .ok (.iconst 0, 1) := by decide +kernel
theorem dX10_changeBag_112 : decode cX10_changeBag 112 = .ok (.iastore, 1) := by decide +kernel
theorem dX10_changeBag_113 : decode cX10_changeBag 113 = .ok (.aload_n 0, 1) := by decide +kernel
theorem dX10_changeBag_114 : decode cX10_changeBag 114 = .ok (.getfield 29, 3) := by decide +kernel
theorem dX10_changeBag_117 : decode cX10_changeBag 117 = .ok (.bipush 8, 2) := by decide +kernel
theorem dX10_changeBag_119 : decode cX10_changeBag 119 = .ok (.dup2, 1) := by decide +kernel
theorem dX10_changeBag_120 : decode cX10_changeBag 120 = .ok (.iaload, 1) := by decide +kernel
theorem dX10_changeBag_121 : decode cX10_changeBag 121 = .ok (.iconst 1, 1) := by decide +kernel
theorem dX10_changeBag_122 : decode cX10_changeBag 122 = .ok (.iadd, 1) := by decide +kernel
theorem dX10_changeBag_123 : decode cX10_changeBag 123 = .ok (.iastore, 1) := by decide +kernel
theorem dX10_changeBag_124 : decode cX10_changeBag 124 = .ok (.iload_n 2, 1) := by decide +kernel
theorem dX10_changeBag_125 : decode cX10_changeBag 125 = .ok (.ireturn, 1) := by decide +kernel
def fn_X10_changeBag (N : Nat) (M : Mem) (a0 : Nat) (x1 : Int32) : Option (Int32 × Mem) :=
  (mm_pV M a0 10 0 (.int 0)).bind fun M1 =>
  (mm_ck M1 a0 10).bind fun _ => mm_b2 (fn_X10_isBin N M1 a0 x1) fun v3 M2 =>
  if v3 = 0 then
    some ((-1), M2)
  else
    (mm_gR M2 a0 10 16).bind fun b4 =>
    (mm_aI M2 b4 0 (14 + x1)).bind fun v5 =>
    if v5 = 0 then
      some ((-2), M2)
    else
      (mm_gR M2 a0 10 16).bind fun b6 =>
      (mm_aI M2 b6 0 8).bind fun v7 =>
      if v7 = 30 then
        some ((-3), M2)
      else
        (mm_ck M2 a0 10).bind fun _ => mm_b2 (fn_X10_keep N M2 a0) fun _ M8 =>
        (mm_gR M8 a0 10 16).bind fun b9 =>
        (mm_aI M8 b9 0 8).bind fun v10 =>
        (mm_gR M8 a0 10 16).bind fun b11 =>
        (mm_gR M8 a0 10 13).bind fun b12 =>
        (mm_aI M8 b12 0 x1).bind fun v13 =>
        (mm_sI M8 b11 0 (202 + v10) v13).bind fun M14 =>
        (mm_gR M14 a0 10 16).bind fun b15 =>
        (mm_gR M14 a0 10 16).bind fun b16 =>
        (mm_aI M14 b16 0 (14 + x1)).bind fun v17 =>
        (mm_sI M14 b15 0 (232 + v10) v17).bind fun M18 =>
        (mm_gR M18 a0 10 16).bind fun b19 =>
        (mm_sI M18 b19 0 (262 + v10) 0).bind fun M20 =>
        (mm_gR M20 a0 10 16).bind fun b21 =>
        (mm_sI M20 b21 0 (14 + x1) 0).bind fun M22 =>
        (mm_gR M22 a0 10 16).bind fun b23 =>
        (mm_aI M22 b23 0 8).bind fun v24 =>
        (mm_sI M22 b23 0 8 (v24 + 1)).bind fun M25 =>
        some (v10, M25)
set_option maxRecDepth 100000 in
set_option maxHeartbeats 4000000 in
theorem ct_X10_changeBag {l : Launch} {ω : Wd} {k N : Nat} {M : Mem} {a0 : Nat} {x1 : Int32} {r : Int32} {M' : Mem} (h : fn_X10_changeBag N M a0 x1 = some (r, M')) : CM l ω k yX10_changeBag cX10_changeBag 3 (some .int) 2 0 0 [.ref a0, .int x1] M (some (.int r)) M' := by
  refine CM.of (by decide) (Nat.le_of_ble_eq_true rfl) fun Γ hl C hr hi => ?_
  subst hl
  unfold fn_X10_changeBag at h
  refine jv_aload_n C dX10_changeBag_0 rfl 0 rfl ?_
  refine jv_iconst (v := 0) C dX10_changeBag_1 (by decide) ?_
  refine jv_putI C fp_X10_58 dX10_changeBag_2 h (fun M1 h => ?_)
  refine jv_aload_n C dX10_changeBag_5 rfl 0 rfl ?_
  refine jv_iload_n C dX10_changeBag_6 rfl 1 rfl ?_
  refine jv_vI0 (As := [.int x1]) C lk_X10_174 rfl dX10_changeBag_7 rfl rfl (by decide) (by decide) (by decide) (Nat.le_of_ble_eq_true rfl) h (fun _ _ h => ct_X10_isBin h) (fun v3 M2 h => ?_)
  refine jv_if_ne (tgt := 15) C dX10_changeBag_10 (by decide) h (fun h => ?_) (fun h => ?_)
  · refine jv_aload_n C dX10_changeBag_15 rfl 0 rfl ?_
    refine jv_getR C fa_X10_29 dX10_changeBag_16 h (fun b4 h => ?_)
    refine jv_bipush (v := 14) C dX10_changeBag_19 (by decide) ?_
    refine jv_iload_n C dX10_changeBag_21 rfl 1 rfl ?_
    refine jv_iadd C dX10_changeBag_22 ?_
    refine jv_iald C dX10_changeBag_23 h (fun v5 h => ?_)
    refine jv_if_ne (tgt := 30) C dX10_changeBag_24 (by decide) h (fun h => ?_) (fun h => ?_)
    · refine jv_aload_n C dX10_changeBag_30 rfl 0 rfl ?_
      refine jv_getR C fa_X10_29 dX10_changeBag_31 h (fun b6 h => ?_)
      refine jv_bipush (v := 8) C dX10_changeBag_34 (by decide) ?_
      refine jv_iald C dX10_changeBag_36 h (fun v7 h => ?_)
      refine jv_bipush (v := 30) C dX10_changeBag_37 (by decide) ?_
      refine jv_icmp_ne (tgt := 45) C dX10_changeBag_39 (by decide) h (fun h => ?_) (fun h => ?_)
      · refine jv_aload_n C dX10_changeBag_45 rfl 0 rfl ?_
        refine jv_vV0 (As := []) C lk_X10_271 rfl dX10_changeBag_46 rfl rfl (by decide) (by decide) (by decide) (Nat.le_of_ble_eq_true rfl) h (fun _ _ h => ct_X10_keep h) (fun _ M8 h => ?_)
        refine jv_aload_n C dX10_changeBag_49 rfl 0 rfl ?_
        refine jv_getR C fa_X10_29 dX10_changeBag_50 h (fun b9 h => ?_)
        refine jv_bipush (v := 8) C dX10_changeBag_53 (by decide) ?_
        refine jv_iald C dX10_changeBag_55 h (fun v10 h => ?_)
        refine jv_istore_n (lv' := [(2, .int v10), (0, .ref a0), (1, .int x1)]) C dX10_changeBag_56 rfl (by decide) rfl ?_
        refine jv_aload_n C dX10_changeBag_57 rfl 1 rfl ?_
        refine jv_getR C fa_X10_29 dX10_changeBag_58 h (fun b11 h => ?_)
        refine jv_sipush (v := 202) C dX10_changeBag_61 (by decide) ?_
        refine jv_iload_n C dX10_changeBag_64 rfl 0 rfl ?_
        refine jv_iadd C dX10_changeBag_65 ?_
        refine jv_aload_n C dX10_changeBag_66 rfl 1 rfl ?_
        refine jv_getR C fa_X10_23 dX10_changeBag_67 h (fun b12 h => ?_)
        refine jv_iload_n C dX10_changeBag_70 rfl 2 rfl ?_
        refine jv_iald C dX10_changeBag_71 h (fun v13 h => ?_)
        refine jv_iast C dX10_changeBag_72 h (fun M14 h => ?_)
        refine jv_aload_n C dX10_changeBag_73 rfl 1 rfl ?_
        refine jv_getR C fa_X10_29 dX10_changeBag_74 h (fun b15 h => ?_)
        refine jv_sipush (v := 232) C dX10_changeBag_77 (by decide) ?_
        refine jv_iload_n C dX10_changeBag_80 rfl 0 rfl ?_
        refine jv_iadd C dX10_changeBag_81 ?_
        refine jv_aload_n C dX10_changeBag_82 rfl 1 rfl ?_
        refine jv_getR C fa_X10_29 dX10_changeBag_83 h (fun b16 h => ?_)
        refine jv_bipush (v := 14) C dX10_changeBag_86 (by decide) ?_
        refine jv_iload_n C dX10_changeBag_88 rfl 2 rfl ?_
        refine jv_iadd C dX10_changeBag_89 ?_
        refine jv_iald C dX10_changeBag_90 h (fun v17 h => ?_)
        refine jv_iast C dX10_changeBag_91 h (fun M18 h => ?_)
        refine jv_aload_n C dX10_changeBag_92 rfl 1 rfl ?_
        refine jv_getR C fa_X10_29 dX10_changeBag_93 h (fun b19 h => ?_)
        refine jv_sipush (v := 262) C dX10_changeBag_96 (by decide) ?_
        refine jv_iload_n C dX10_changeBag_99 rfl 0 rfl ?_
        refine jv_iadd C dX10_changeBag_100 ?_
        refine jv_iconst (v := 0) C dX10_changeBag_101 (by decide) ?_
        refine jv_iast C dX10_changeBag_102 h (fun M20 h => ?_)
        refine jv_aload_n C dX10_changeBag_103 rfl 1 rfl ?_
        refine jv_getR C fa_X10_29 dX10_changeBag_104 h (fun b21 h => ?_)
        refine jv_bipush (v := 14) C dX10_changeBag_107 (by decide) ?_
        refine jv_iload_n C dX10_changeBag_109 rfl 2 rfl ?_
        refine jv_iadd C dX10_changeBag_110 ?_
        refine jv_iconst (v := 0) C dX10_changeBag_111 (by decide) ?_
        refine jv_iast C dX10_changeBag_112 h (fun M22 h => ?_)
        refine jv_aload_n C dX10_changeBag_113 rfl 1 rfl ?_
        refine jv_getR C fa_X10_29 dX10_changeBag_114 h (fun b23 h => ?_)
        refine jv_bipush (v := 8) C dX10_changeBag_117 (by decide) ?_
        refine jv_dup2 C dX10_changeBag_119 rfl rfl ?_
        refine jv_iald C dX10_changeBag_120 h (fun v24 h => ?_)
        refine jv_iconst (v := 1) C dX10_changeBag_121 (by decide) ?_
        refine jv_iadd C dX10_changeBag_122 ?_
        refine jv_iast C dX10_changeBag_123 h (fun M25 h => ?_)
        refine jv_iload_n C dX10_changeBag_124 rfl 0 rfl ?_
        exact jv_iret C hr dX10_changeBag_125 h
      · refine jv_bipush (v := (-3)) C dX10_changeBag_42 (by decide) ?_
        exact jv_iret C hr dX10_changeBag_44 h
    · refine jv_bipush (v := (-2)) C dX10_changeBag_27 (by decide) ?_
      exact jv_iret C hr dX10_changeBag_29 h
  · refine jv_iconst (v := (-1)) C dX10_changeBag_13 (by decide) ?_
    exact jv_iret C hr dX10_changeBag_14 h
theorem dX10_classify_0 : decode cX10_classify 0 = .ok (.aload_n 0, 1) := by decide +kernel
theorem dX10_classify_1 : decode cX10_classify 1 = .ok (.iconst 0, 1) := by decide +kernel
theorem dX10_classify_2 : decode cX10_classify 2 = .ok (.putfield 58, 3) := by decide +kernel
theorem dX10_classify_5 : decode cX10_classify 5 = .ok (.iload_n 1, 1) := by decide +kernel
theorem dX10_classify_6 : decode cX10_classify 6 = .ok (.iload_n 2, 1) := by decide +kernel
theorem dX10_classify_7 : decode cX10_classify 7 = .ok (.invokestatic 208, 3) := by decide +kernel
theorem dX10_classify_10 : decode cX10_classify 10 = .ok (.ifCond .eq 18, 3) := by decide +kernel
theorem dX10_classify_13 : decode cX10_classify 13 = .ok (.aload_n 0, 1) := by decide +kernel
theorem dX10_classify_14 : decode cX10_classify 14 = .ok (.iload_n 1, 1) := by decide +kernel
theorem dX10_classify_15 : decode cX10_classify 15 = .ok (.iload_n 2, 1) := by decide +kernel
theorem dX10_classify_16 : decode cX10_classify 16 = .ok (.aload_n 0, 1) := by decide +kernel
theorem dX10_classify_17 : decode cX10_classify 17 = .ok (.getfield 29, 3) := by decide +kernel
theorem dX10_classify_20 : decode cX10_classify 20 = .ok (.iconst 2, 1) := by decide +kernel
theorem dX10_classify_21 : decode cX10_classify 21 = .ok (.iaload, 1) := by decide +kernel
theorem dX10_classify_22 : decode cX10_classify 22 = .ok (.invokevirtual 212, 3) := by decide +kernel
theorem dX10_classify_25 : decode cX10_classify 25 = .ok (.goto 8, 3) := by decide +kernel
theorem dX10_classify_28 : decode cX10_classify 28 = .ok (.aload_n 0, 1) := by decide +kernel
theorem dX10_classify_29 : decode cX10_classify 29 = .ok (.iconst 1, 1) := by decide +kernel
theorem dX10_classify_30 : decode cX10_classify 30 = .ok (.invokevirtual 205, 3) := by decide +kernel
theorem dX10_classify_33 : decode cX10_classify 33 = .ok (.ireturn, 1) := by decide +kernel
def fn_X10_classify (N : Nat) (M : Mem) (a0 : Nat) (x1 : Int32) (x2 : Int32) : Option (Int32 × Mem) :=
  (mm_pV M a0 10 0 (.int 0)).bind fun M1 =>
  mm_b2 (fn_X10_isCoin N M1 x1 x2) fun v3 M2 =>
  if v3 = 0 then
    (mm_ck M2 a0 10).bind fun _ => mm_b2 (fn_X10_fail N M2 a0 1) fun v5 M4 =>
    some (v5, M4)
  else
    (mm_gR M2 a0 10 16).bind fun b6 =>
    (mm_aI M2 b6 0 2).bind fun v7 =>
    (mm_ck M2 a0 10).bind fun _ => mm_b2 (fn_X10_verdict N M2 a0 x1 x2 v7) fun v9 M8 =>
    some (v9, M8)
set_option maxRecDepth 100000 in
set_option maxHeartbeats 4000000 in
theorem ct_X10_classify {l : Launch} {ω : Wd} {k N : Nat} {M : Mem} {a0 : Nat} {x1 : Int32} {x2 : Int32} {r : Int32} {M' : Mem} (h : fn_X10_classify N M a0 x1 x2 = some (r, M')) : CM l ω k yX10_classify cX10_classify 3 (some .int) 4 0 0 [.ref a0, .int x1, .int x2] M (some (.int r)) M' := by
  refine CM.of (by decide) (Nat.le_of_ble_eq_true rfl) fun Γ hl C hr hi => ?_
  subst hl
  unfold fn_X10_classify at h
  refine jv_aload_n C dX10_classify_0 rfl 0 rfl ?_
  refine jv_iconst (v := 0) C dX10_classify_1 (by decide) ?_
  refine jv_putI C fp_X10_58 dX10_classify_2 h (fun M1 h => ?_)
  refine jv_iload_n C dX10_classify_5 rfl 1 rfl ?_
  refine jv_iload_n C dX10_classify_6 rfl 2 rfl ?_
  refine jv_sI0 (As := [.int x1, .int x2]) C lk_X10_208 dX10_classify_7 rfl rfl (by decide) (by decide) (by decide) (Nat.le_of_ble_eq_true rfl) h (fun _ _ h => ct_X10_isCoin h) (fun v3 M2 h => ?_)
  refine jv_if_eq (tgt := 28) C dX10_classify_10 (by decide) h (fun h => ?_) (fun h => ?_)
  · refine jv_aload_n C dX10_classify_28 rfl 0 rfl ?_
    refine jv_iconst (v := 1) C dX10_classify_29 (by decide) ?_
    refine jv_vI0 (As := [.int 1]) C lk_X10_205 rfl dX10_classify_30 rfl rfl (by decide) (by decide) (by decide) (Nat.le_of_ble_eq_true rfl) h (fun _ _ h => ct_X10_fail h) (fun v5 M4 h => ?_)
    exact jv_iret C hr dX10_classify_33 h
  · refine jv_aload_n C dX10_classify_13 rfl 0 rfl ?_
    refine jv_iload_n C dX10_classify_14 rfl 1 rfl ?_
    refine jv_iload_n C dX10_classify_15 rfl 2 rfl ?_
    refine jv_aload_n C dX10_classify_16 rfl 0 rfl ?_
    refine jv_getR C fa_X10_29 dX10_classify_17 h (fun b6 h => ?_)
    refine jv_iconst (v := 2) C dX10_classify_20 (by decide) ?_
    refine jv_iald C dX10_classify_21 h (fun v7 h => ?_)
    refine jv_vI0 (As := [.int x1, .int x2, .int v7]) C lk_X10_212 rfl dX10_classify_22 rfl rfl (by decide) (by decide) (by decide) (Nat.le_of_ble_eq_true rfl) h (fun _ _ h => ct_X10_verdict h) (fun v9 M8 h => ?_)
    refine jv_goto (tgt := 33) C dX10_classify_25 (by decide) ?_
    exact jv_iret C hr dX10_classify_33 h
theorem dX10_rejectPlace_0 : decode cX10_rejectPlace 0 = .ok (.iload_n 0, 1) := by decide +kernel
theorem dX10_rejectPlace_1 : decode cX10_rejectPlace 1 = .ok (.i2l, 1) := by decide +kernel
theorem dX10_rejectPlace_2 : decode cX10_rejectPlace 2 = .ok (.ldc2_w 230, 3) := by decide +kernel
theorem dX10_rejectPlace_5 : decode cX10_rejectPlace 5 = .ok (.ldc2_w 232, 3) := by decide +kernel
theorem dX10_rejectPlace_8 : decode cX10_rejectPlace 8 = .ok (.invokestatic 89, 3) := by decide +kernel
theorem dX10_rejectPlace_11 : decode cX10_rejectPlace 11 = .ok (.ifCond .eq 13, 3) := by decide +kernel
theorem dX10_rejectPlace_14 : decode cX10_rejectPlace 14 = .ok (.bipush 10, 2) := by decide +kernel
theorem dX10_rejectPlace_16 : decode cX10_rejectPlace 16 = .ok (.iload_n 0, 1) := by decide +kernel
theorem dX10_rejectPlace_17 : decode cX10_rejectPlace 17 = .ok (.iadd, 1) := by decide +kernel
theorem dX10_rejectPlace_18 : decode cX10_rejectPlace 18 = .ok (.bipush 21, 2) := by decide +kernel
theorem dX10_rejectPlace_20 : decode cX10_rejectPlace 20 = .ok (.isub, 1) := by decide +kernel
theorem dX10_rejectPlace_21 : decode cX10_rejectPlace 21 = .ok (.goto 4, 3) := by decide +kernel
theorem dX10_rejectPlace_24 : decode cX10_rejectPlace 24 = .ok (.iconst (-1), 1) := by decide +kernel
theorem dX10_rejectPlace_25 : decode cX10_rejectPlace 25 = .ok (.ireturn, 1) := by decide +kernel
def fn_X10_rejectPlace (N : Nat) (M : Mem) (x0 : Int32) : Option (Int32 × Mem) :=
  mm_b2 (fn_X10_within N M ((Int32.toInt64 x0)) 21 24) fun v2 M1 =>
  if v2 = 0 then
    some ((-1), M1)
  else
    some (((10 + x0) - 21), M1)
set_option maxRecDepth 100000 in
set_option maxHeartbeats 4000000 in
theorem ct_X10_rejectPlace {l : Launch} {ω : Wd} {k N : Nat} {M : Mem} {x0 : Int32} {r : Int32} {M' : Mem} (h : fn_X10_rejectPlace N M x0 = some (r, M')) : CM l ω k yX10_rejectPlace cX10_rejectPlace 1 (some .int) 1 0 0 [.int x0] M (some (.int r)) M' := by
  refine CM.of (by decide) (Nat.le_of_ble_eq_true rfl) fun Γ hl C hr hi => ?_
  subst hl
  unfold fn_X10_rejectPlace at h
  refine jv_iload_n C dX10_rejectPlace_0 rfl 0 rfl ?_
  refine jv_i2l C dX10_rejectPlace_1 ?_
  refine jv_ldc2 C gw_1644 dX10_rejectPlace_2 ?_
  refine jv_ldc2 C gw_1645 dX10_rejectPlace_5 ?_
  refine jv_sI0 (As := [.long (Int32.toInt64 x0), .long 21, .long 24]) C lk_X10_89 dX10_rejectPlace_8 rfl rfl (by decide) (by decide) (by decide) (Nat.le_of_ble_eq_true rfl) h (fun _ _ h => ct_X10_within h) (fun v2 M1 h => ?_)
  refine jv_if_eq (tgt := 24) C dX10_rejectPlace_11 (by decide) h (fun h => ?_) (fun h => ?_)
  · refine jv_iconst (v := (-1)) C dX10_rejectPlace_24 (by decide) ?_
    exact jv_iret C hr dX10_rejectPlace_25 h
  · refine jv_bipush (v := 10) C dX10_rejectPlace_14 (by decide) ?_
    refine jv_iload_n C dX10_rejectPlace_16 rfl 0 rfl ?_
    refine jv_iadd C dX10_rejectPlace_17 ?_
    refine jv_bipush (v := 21) C dX10_rejectPlace_18 (by decide) ?_
    refine jv_isub C dX10_rejectPlace_20 ?_
    refine jv_goto (tgt := 25) C dX10_rejectPlace_21 (by decide) ?_
    exact jv_iret C hr dX10_rejectPlace_25 h
theorem dX10_clearJam_0 : decode cX10_clearJam 0 = .ok (.aload_n 0, 1) := by decide +kernel
theorem dX10_clearJam_1 : decode cX10_clearJam 1 = .ok (.iconst 0, 1) := by decide +kernel
theorem dX10_clearJam_2 : decode cX10_clearJam 2 = .ok (.putfield 58, 3) := by decide +kernel
theorem dX10_clearJam_5 : decode cX10_clearJam 5 = .ok (.aload_n 0, 1) := by decide +kernel
theorem dX10_clearJam_6 : decode cX10_clearJam 6 = .ok (.getfield 29, 3) := by decide +kernel
theorem dX10_clearJam_9 : decode cX10_clearJam 9 = .ok (.iconst 5, 1) := by decide +kernel
theorem dX10_clearJam_10 : decode cX10_clearJam 10 = .ok (.iaload, 1) := by decide +kernel
theorem dX10_clearJam_11 : decode cX10_clearJam 11 = .ok (.ifCond .ne 5, 3) := by decide +kernel
theorem dX10_clearJam_14 : decode cX10_clearJam 14 = .ok (.iconst 0, 1) := by decide +kernel
theorem dX10_clearJam_15 : decode cX10_clearJam 15 = .ok (.ireturn, 1) := by decide +kernel
theorem dX10_clearJam_16 : decode cX10_clearJam 16 = .ok (.aload_n 0, 1) := by decide +kernel
theorem dX10_clearJam_17 : decode cX10_clearJam 17 = .ok (.invokevirtual 271, 3) := by decide +kernel
theorem dX10_clearJam_20 : decode cX10_clearJam 20 = .ok (.aload_n 0, 1) := by decide +kernel
theorem dX10_clearJam_21 : decode cX10_clearJam 21 = .ok (.getfield 29, 3) := by decide +kernel
theorem dX10_clearJam_24 : decode cX10_clearJam 24 = .ok (.iconst 5, 1) := by decide +kernel
theorem dX10_clearJam_25 : decode cX10_clearJam 25 = .ok (.iconst 0, 1) := by decide +kernel
theorem dX10_clearJam_26 : decode cX10_clearJam 26 = .ok (.iastore, 1) := by decide +kernel
theorem dX10_clearJam_27 : decode cX10_clearJam 27 = .ok (.aload_n 0, 1) := by decide +kernel
theorem dX10_clearJam_28 : decode cX10_clearJam 28 = .ok (.getfield 29, 3) := by decide +kernel
theorem dX10_clearJam_31 : decode cX10_clearJam 31 = .ok (.bipush 24, 2) := by decide +kernel
theorem dX10_clearJam_33 : decode cX10_clearJam 33 = .ok (.invokestatic 234, 3) := by decide +kernel
theorem dX10_clearJam_36 : decode cX10_clearJam 36 = .ok (.dup2, 1) := by decide +kernel
theorem dX10_clearJam_37 : decode cX10_clearJam 37 = .ok (.iaload, 1) := by decide +kernel
theorem dX10_clearJam_38 : decode cX10_clearJam 38 = .ok (.iconst 1, 1) := by decide +kernel
theorem dX10_clearJam_39 : decode cX10_clearJam 39 = .ok (.iadd, 1) := by decide +kernel
theorem dX10_clearJam_40 : decode cX10_clearJam 40 = .ok (.iastore, 1) := by decide +kernel
theorem dX10_clearJam_41 : decode cX10_clearJam 41 = .ok (.iconst 1, 1) := by decide +kernel
theorem dX10_clearJam_42 : decode cX10_clearJam 42 = .ok (.ireturn, 1) := by decide +kernel
def fn_X10_clearJam (N : Nat) (M : Mem) (a0 : Nat) : Option (Int32 × Mem) :=
  (mm_pV M a0 10 0 (.int 0)).bind fun M1 =>
  (mm_gR M1 a0 10 16).bind fun b2 =>
  (mm_aI M1 b2 0 5).bind fun v3 =>
  if v3 = 0 then
    some (0, M1)
  else
    (mm_ck M1 a0 10).bind fun _ => mm_b2 (fn_X10_keep N M1 a0) fun _ M4 =>
    (mm_gR M4 a0 10 16).bind fun b5 =>
    (mm_sI M4 b5 0 5 0).bind fun M6 =>
    (mm_gR M6 a0 10 16).bind fun b7 =>
    mm_b2 (fn_X10_rejectPlace N M6 24) fun v9 M8 =>
    (mm_aI M8 b7 0 v9).bind fun v10 =>
    (mm_sI M8 b7 0 v9 (v10 + 1)).bind fun M11 =>
    some (1, M11)
set_option maxRecDepth 100000 in
set_option maxHeartbeats 4000000 in
theorem ct_X10_clearJam {l : Launch} {ω : Wd} {k N : Nat} {M : Mem} {a0 : Nat} {r : Int32} {M' : Mem} (h : fn_X10_clearJam N M a0 = some (r, M')) : CM l ω k yX10_clearJam cX10_clearJam 1 (some .boolean) 2 0 0 [.ref a0] M (some (.int r)) M' := by
  refine CM.of (by decide) (Nat.le_of_ble_eq_true rfl) fun Γ hl C hr hi => ?_
  subst hl
  unfold fn_X10_clearJam at h
  refine jv_aload_n C dX10_clearJam_0 rfl 0 rfl ?_
  refine jv_iconst (v := 0) C dX10_clearJam_1 (by decide) ?_
  refine jv_putI C fp_X10_58 dX10_clearJam_2 h (fun M1 h => ?_)
  refine jv_aload_n C dX10_clearJam_5 rfl 0 rfl ?_
  refine jv_getR C fa_X10_29 dX10_clearJam_6 h (fun b2 h => ?_)
  refine jv_iconst (v := 5) C dX10_clearJam_9 (by decide) ?_
  refine jv_iald C dX10_clearJam_10 h (fun v3 h => ?_)
  refine jv_if_ne (tgt := 16) C dX10_clearJam_11 (by decide) h (fun h => ?_) (fun h => ?_)
  · refine jv_aload_n C dX10_clearJam_16 rfl 0 rfl ?_
    refine jv_vV0 (As := []) C lk_X10_271 rfl dX10_clearJam_17 rfl rfl (by decide) (by decide) (by decide) (Nat.le_of_ble_eq_true rfl) h (fun _ _ h => ct_X10_keep h) (fun _ M4 h => ?_)
    refine jv_aload_n C dX10_clearJam_20 rfl 0 rfl ?_
    refine jv_getR C fa_X10_29 dX10_clearJam_21 h (fun b5 h => ?_)
    refine jv_iconst (v := 5) C dX10_clearJam_24 (by decide) ?_
    refine jv_iconst (v := 0) C dX10_clearJam_25 (by decide) ?_
    refine jv_iast C dX10_clearJam_26 h (fun M6 h => ?_)
    refine jv_aload_n C dX10_clearJam_27 rfl 0 rfl ?_
    refine jv_getR C fa_X10_29 dX10_clearJam_28 h (fun b7 h => ?_)
    refine jv_bipush (v := 24) C dX10_clearJam_31 (by decide) ?_
    refine jv_sI0 (As := [.int 24]) C lk_X10_234 dX10_clearJam_33 rfl rfl (by decide) (by decide) (by decide) (Nat.le_of_ble_eq_true rfl) h (fun _ _ h => ct_X10_rejectPlace h) (fun v9 M8 h => ?_)
    refine jv_dup2 C dX10_clearJam_36 rfl rfl ?_
    refine jv_iald C dX10_clearJam_37 h (fun v10 h => ?_)
    refine jv_iconst (v := 1) C dX10_clearJam_38 (by decide) ?_
    refine jv_iadd C dX10_clearJam_39 ?_
    refine jv_iast C dX10_clearJam_40 h (fun M11 h => ?_)
    refine jv_iconst (v := 1) C dX10_clearJam_41 (by decide) ?_
    exact jv_zretc C hr (Or.inr rfl) dX10_clearJam_42 h
  · refine jv_iconst (v := 0) C dX10_clearJam_14 (by decide) ?_
    exact jv_zretc C hr (Or.inl rfl) dX10_clearJam_15 h
theorem dX10_clearState_0 : decode cX10_clearState 0 = .ok (.iconst 0, 1) := by decide +kernel
theorem dX10_clearState_1 : decode cX10_clearState 1 = .ok (.istore_n 1, 1) := by decide +kernel
theorem dX10_clearState_2 : decode cX10_clearState 2 = .ok (.iload_n 1, 1) := by decide +kernel
theorem dX10_clearState_3 : decode cX10_clearState 3 = .ok (.sipush 412, 3) := by decide +kernel
theorem dX10_clearState_6 : decode cX10_clearState 6 = .ok (.if_icmp .ge 16, 3) := by decide +kernel
theorem dX10_clearState_9 : decode cX10_clearState 9 = .ok (.aload_n 0, 1) := by decide +kernel
theorem dX10_clearState_10 : decode cX10_clearState 10 = .ok (.getfield 29, 3) := by decide +kernel
theorem dX10_clearState_13 : decode cX10_clearState 13 = .ok (.iload_n 1, 1) := by decide +kernel
theorem dX10_clearState_14 : decode cX10_clearState 14 = .ok (.iconst 0, 1) := by decide +kernel
theorem dX10_clearState_15 : decode cX10_clearState 15 = .ok (.iastore, 1) := by decide +kernel
theorem dX10_clearState_16 : decode cX10_clearState 16 = .ok (.iinc 1 1, 3) := by decide +kernel
theorem dX10_clearState_19 : decode cX10_clearState 19 = .ok (.goto (-17), 3) := by decide +kernel
theorem dX10_clearState_22 : decode cX10_clearState 22 = .ok (.aload_n 0, 1) := by decide +kernel
theorem dX10_clearState_23 : decode cX10_clearState 23 = .ok (.getfield 29, 3) := by decide +kernel
theorem dX10_clearState_26 : decode cX10_clearState 26 = .ok (.iconst 2, 1) := by decide +kernel
theorem dX10_clearState_27 : decode cX10_clearState 27 = .ok (.aload_n 0, 1) := by decide +kernel
theorem dX10_clearState_28 : decode cX10_clearState 28 = .ok (.getfield 13, 3) := by decide +kernel
theorem dX10_clearState_31 : decode cX10_clearState 31 = .ok (.iconst 5, 1) := by decide +kernel
theorem dX10_clearState_32 : decode cX10_clearState 32 = .ok (.iaload, 1) := by decide +kernel
theorem dX10_clearState_33 : decode cX10_clearState 33 = .ok (.iastore, 1) := by decide +kernel
theorem dX10_clearState_34 : decode cX10_clearState 34 = .ok (.return_, 1) := by decide +kernel
def fn_X10_clearState_2 (N : Nat) : Nat → Mem → Nat → Int32 → Option (Unit × Mem)
  | 0, _, _, _ => none
  | n + 1, M, a0, x1 =>
    if 412 ≤ x1 then
      (mm_gR M a0 10 16).bind fun b1 =>
      (mm_gR M a0 10 10).bind fun b2 =>
      (mm_aI M b2 0 5).bind fun v3 =>
      (mm_sI M b1 0 2 v3).bind fun M4 =>
      some ((), M4)
    else
      (mm_gR M a0 10 16).bind fun b5 =>
      (mm_sI M b5 0 x1 0).bind fun M6 =>
      fn_X10_clearState_2 N n M6 a0 ((x1 + 1))
set_option maxRecDepth 100000 in
set_option maxHeartbeats 4000000 in
theorem bk_X10_clearState_2 {Γ : Gm} {ω : Wd} {k N : Nat} {r : Unit} {M' : Mem} (C : Cx Γ cX10_clearState 2 RX10 ω 0 0 0) (hr : Γ.meth.sig.returnType = none) : ∀ (n : Nat) (M : Mem) (a0 : Nat) (x1 : Int32), fn_X10_clearState_2 N n M a0 x1 = some (r, M') → JJ Γ (QF Γ ω k 0 0 none M') 2 ω k M 0 0 2 [(0, .ref a0), (1, .int x1)] [] := by
  intro n
  induction n with
  | zero => intro M a0 x1 h; exact jv_no h
  | succ n ih =>
    intro M a0 x1 h
    rw [fn_X10_clearState_2.eq_2] at h
    refine jv_iload_n C dX10_clearState_2 rfl 1 rfl ?_
    refine jv_sipush (v := 412) C dX10_clearState_3 (by decide) ?_
    refine jv_icmp_ge (tgt := 22) C dX10_clearState_6 (by decide) h (fun h => ?_) (fun h => ?_)
    · refine jv_aload_n C dX10_clearState_22 rfl 0 rfl ?_
      refine jv_getR C fa_X10_29 dX10_clearState_23 h (fun b1 h => ?_)
      refine jv_iconst (v := 2) C dX10_clearState_26 (by decide) ?_
      refine jv_aload_n C dX10_clearState_27 rfl 0 rfl ?_
      refine jv_getR C fa_X10_13 dX10_clearState_28 h (fun b2 h => ?_)
      refine jv_iconst (v := 5) C dX10_clearState_31 (by decide) ?_
      refine jv_iald C dX10_clearState_32 h (fun v3 h => ?_)
      refine jv_iast C dX10_clearState_33 h (fun M4 h => ?_)
      exact jv_vret C hr dX10_clearState_34 h
    · refine jv_aload_n C dX10_clearState_9 rfl 0 rfl ?_
      refine jv_getR C fa_X10_29 dX10_clearState_10 h (fun b5 h => ?_)
      refine jv_iload_n C dX10_clearState_13 rfl 1 rfl ?_
      refine jv_iconst (v := 0) C dX10_clearState_14 (by decide) ?_
      refine jv_iast C dX10_clearState_15 h (fun M6 h => ?_)
      refine jv_iinc (v := 1) (lv' := [(1, .int (x1 + 1)), (0, .ref a0)]) C dX10_clearState_16 1 rfl (by decide) (by decide) rfl ?_
      refine jv_goto (tgt := 2) C dX10_clearState_19 (by decide) ?_
      refine jv_sub [1, 0] rfl ?_
      exact ih _ _ _ h
def fn_X10_clearState (N : Nat) (M : Mem) (a0 : Nat) : Option (Unit × Mem) :=
  fn_X10_clearState_2 N N M a0 0
set_option maxRecDepth 100000 in
set_option maxHeartbeats 4000000 in
theorem ct_X10_clearState {l : Launch} {ω : Wd} {k N : Nat} {M : Mem} {a0 : Nat} {r : Unit} {M' : Mem} (h : fn_X10_clearState N M a0 = some (r, M')) : CM l ω k yX10_clearState cX10_clearState 2 none 0 0 0 [.ref a0] M none M' := by
  refine CM.of (by decide) (Nat.le_of_ble_eq_true rfl) fun Γ hl C hr hi => ?_
  subst hl
  unfold fn_X10_clearState at h
  refine jv_iconst (v := 0) C dX10_clearState_0 (by decide) ?_
  refine jv_istore_n (lv' := [(1, .int 0), (0, .ref a0)]) C dX10_clearState_1 rfl (by decide) rfl ?_
  refine jv_sub [1, 0] rfl ?_
  exact bk_X10_clearState_2 C hr _ _ _ _ h
theorem dX10_coinValue_0 : decode cX10_coinValue 0 = .ok (.aload_n 0, 1) := by decide +kernel
theorem dX10_coinValue_1 : decode cX10_coinValue 1 = .ok (.getfield 20, 3) := by decide +kernel
theorem dX10_coinValue_4 : decode cX10_coinValue 4 = .ok (.iconst 5, 1) := by decide +kernel
theorem dX10_coinValue_5 : decode cX10_coinValue 5 = .ok (.iload_n 1, 1) := by decide +kernel
theorem dX10_coinValue_6 : decode cX10_coinValue 6 = .ok (.imul, 1) := by decide +kernel
theorem dX10_coinValue_7 : decode cX10_coinValue 7 = .ok (.iconst 0, 1) := by decide +kernel
theorem dX10_coinValue_8 : decode cX10_coinValue 8 = .ok (.iadd, 1) := by decide +kernel
theorem dX10_coinValue_9 : decode cX10_coinValue 9 = .ok (.iaload, 1) := by decide +kernel
theorem dX10_coinValue_10 : decode cX10_coinValue 10 = .ok (.ireturn, 1) := by decide +kernel
def fn_X10_coinValue (N : Nat) (M : Mem) (a0 : Nat) (x1 : Int32) : Option (Int32 × Mem) :=
  (mm_gR M a0 10 12).bind fun b1 =>
  (mm_aI M b1 0 ((5 * x1) + 0)).bind fun v2 =>
  some (v2, M)
set_option maxRecDepth 100000 in
set_option maxHeartbeats 4000000 in
theorem ct_X10_coinValue {l : Launch} {ω : Wd} {k N : Nat} {M : Mem} {a0 : Nat} {x1 : Int32} {r : Int32} {M' : Mem} (h : fn_X10_coinValue N M a0 x1 = some (r, M')) : CM l ω k yX10_coinValue cX10_coinValue 2 (some .int) 0 0 0 [.ref a0, .int x1] M (some (.int r)) M' := by
  refine CM.of (by decide) (Nat.le_of_ble_eq_true rfl) fun Γ hl C hr hi => ?_
  subst hl
  unfold fn_X10_coinValue at h
  refine jv_aload_n C dX10_coinValue_0 rfl 0 rfl ?_
  refine jv_getR C fa_X10_20 dX10_coinValue_1 h (fun b1 h => ?_)
  refine jv_iconst (v := 5) C dX10_coinValue_4 (by decide) ?_
  refine jv_iload_n C dX10_coinValue_5 rfl 1 rfl ?_
  refine jv_imul C dX10_coinValue_6 ?_
  refine jv_iconst (v := 0) C dX10_coinValue_7 (by decide) ?_
  refine jv_iadd C dX10_coinValue_8 ?_
  refine jv_iald C dX10_coinValue_9 h (fun v2 h => ?_)
  exact jv_iret C hr dX10_coinValue_10 h
theorem dX10_costWith_0 : decode cX10_costWith 0 = .ok (.iconst 0, 1) := by decide +kernel
theorem dX10_costWith_1 : decode cX10_costWith 1 = .ok (.istore_n 2, 1) := by decide +kernel
theorem dX10_costWith_2 : decode cX10_costWith 2 = .ok (.iconst 0, 1) := by decide +kernel
theorem dX10_costWith_3 : decode cX10_costWith 3 = .ok (.istore_n 3, 1) := by decide +kernel
theorem dX10_costWith_4 : decode cX10_costWith 4 = .ok (.iload_n 3, 1) := by decide +kernel
theorem dX10_costWith_5 : decode cX10_costWith 5 = .ok (.aload_n 0, 1) := by decide +kernel
theorem dX10_costWith_6 : decode cX10_costWith 6 = .ok (.getfield 29, 3) := by decide +kernel
theorem dX10_costWith_9 : decode cX10_costWith 9 = .ok (.bipush 9, 2) := by decide +kernel
theorem dX10_costWith_11 : decode cX10_costWith 11 = .ok (.iaload, 1) := by decide +kernel
theorem dX10_costWith_12 : decode cX10_costWith 12 = .ok (.if_icmp .ge 35, 3) := by decide +kernel
theorem dX10_costWith_15 : decode cX10_costWith 15 = .ok (.iload_n 2, 1) := by decide +kernel
theorem dX10_costWith_16 : decode cX10_costWith 16 = .ok (.aload_n 0, 1) := by decide +kernel
theorem dX10_costWith_17 : decode cX10_costWith 17 = .ok (.iload_n 3, 1) := by decide +kernel
theorem dX10_costWith_18 : decode cX10_costWith 18 = .ok (.iload_n 1, 1) := by decide +kernel
theorem dX10_costWith_19 : decode cX10_costWith 19 = .ok (.invokevirtual 260, 3) := by decide +kernel
theorem dX10_costWith_22 : decode cX10_costWith 22 = .ok (.aload_n 0, 1) := by decide +kernel
theorem dX10_costWith_23 : decode cX10_costWith 23 = .ok (.getfield 29, 3) := by decide +kernel
theorem dX10_costWith_26 : decode cX10_costWith 26 = .ok (.sipush 292, 3) := by decide +kernel
theorem dX10_costWith_29 : decode cX10_costWith 29 = .ok (.iconst 3, 1) := by decide +kernel
theorem dX10_costWith_30 : decode cX10_costWith 30 = .ok (.iload_n 3, 1) := by decide +kernel
theorem dX10_costWith_31 : decode cX10_costWith 31 = .ok (.imul, 1) := by decide +kernel
theorem dX10_costWith_32 : decode cX10_costWith 32 = .ok (.iadd, 1) := by decide +kernel
theorem dX10_costWith_33 : decode cX10_costWith 33 = .ok (.iconst 2, 1) := by decide +kernel
theorem dX10_costWith_34 : decode cX10_costWith 34 = .ok (.iadd, 1) := by decide +kernel
theorem dX10_costWith_35 : decode cX10_costWith 35 = .ok (.iaload, 1) := by decide +kernel
theorem dX10_costWith_36 : decode cX10_costWith 36 = .ok (.invokestatic 263, 3) := by decide +kernel
theorem dX10_costWith_39 : decode cX10_costWith 39 = .ok (.iadd, 1) := by decide +kernel
theorem dX10_costWith_40 : decode cX10_costWith 40 = .ok (.istore_n 2, 1) := by decide +kernel
theorem dX10_costWith_41 : decode cX10_costWith 41 = .ok (.iinc 3 1, 3) := by decide +kernel
theorem dX10_costWith_44 : decode cX10_costWith 44 = .ok (.goto (-40), 3) := by decide +kernel
theorem dX10_costWith_47 : decode cX10_costWith 47 = .ok (.iload_n 2, 1) := by decide +kernel
theorem dX10_costWith_48 : decode cX10_costWith 48 = .ok (.ireturn, 1) := by decide +kernel
def fn_X10_costWith_4 (N : Nat) : Nat → Mem → Nat → Int32 → Int32 → Int32 → Option (Int32 × Mem)
  | 0, _, _, _, _, _ => none
  | n + 1, M, a0, x1, x2, x3 =>
    (mm_gR M a0 10 16).bind fun b1 =>
    (mm_aI M b1 0 9).bind fun v2 =>
    if v2 ≤ x3 then
      some (x2, M)
    else
      (mm_ck M a0 10).bind fun _ => mm_b2 (fn_X10_sampleVerdict N M a0 x3 x1) fun v4 M3 =>
      (mm_gR M3 a0 10 16).bind fun b5 =>
      (mm_aI M3 b5 0 ((292 + (3 * x3)) + 2)).bind fun v6 =>
      mm_b2 (fn_X10_costOf N M3 v4 v6) fun v8 M7 =>
      fn_X10_costWith_4 N n M7 a0 x1 ((x2 + v8)) ((x3 + 1))
set_option maxRecDepth 100000 in
set_option maxHeartbeats 4000000 in
theorem bk_X10_costWith_4 {Γ : Gm} {ω : Wd} {k N : Nat} {r : Int32} {M' : Mem} (C : Cx Γ cX10_costWith 4 RX10 ω 5 0 0) (hr : Γ.meth.sig.returnType = (some .int)) : ∀ (n : Nat) (M : Mem) (a0 : Nat) (x1 : Int32) (x2 : Int32) (x3 : Int32), fn_X10_costWith_4 N n M a0 x1 x2 x3 = some (r, M') → JJ Γ (QF Γ ω k 0 0 (some (.int r)) M') 4 ω k M 0 0 4 [(0, .ref a0), (1, .int x1), (2, .int x2), (3, .int x3)] [] := by
  intro n
  induction n with
  | zero => intro M a0 x1 x2 x3 h; exact jv_no h
  | succ n ih =>
    intro M a0 x1 x2 x3 h
    rw [fn_X10_costWith_4.eq_2] at h
    refine jv_iload_n C dX10_costWith_4 rfl 3 rfl ?_
    refine jv_aload_n C dX10_costWith_5 rfl 0 rfl ?_
    refine jv_getR C fa_X10_29 dX10_costWith_6 h (fun b1 h => ?_)
    refine jv_bipush (v := 9) C dX10_costWith_9 (by decide) ?_
    refine jv_iald C dX10_costWith_11 h (fun v2 h => ?_)
    refine jv_icmp_ge (tgt := 47) C dX10_costWith_12 (by decide) h (fun h => ?_) (fun h => ?_)
    · refine jv_iload_n C dX10_costWith_47 rfl 2 rfl ?_
      exact jv_iret C hr dX10_costWith_48 h
    · refine jv_iload_n C dX10_costWith_15 rfl 2 rfl ?_
      refine jv_aload_n C dX10_costWith_16 rfl 0 rfl ?_
      refine jv_iload_n C dX10_costWith_17 rfl 3 rfl ?_
      refine jv_iload_n C dX10_costWith_18 rfl 1 rfl ?_
      refine jv_vI0 (As := [.int x3, .int x1]) C lk_X10_260 rfl dX10_costWith_19 rfl rfl (by decide) (by decide) (by decide) (Nat.le_of_ble_eq_true rfl) h (fun _ _ h => ct_X10_sampleVerdict h) (fun v4 M3 h => ?_)
      refine jv_aload_n C dX10_costWith_22 rfl 0 rfl ?_
      refine jv_getR C fa_X10_29 dX10_costWith_23 h (fun b5 h => ?_)
      refine jv_sipush (v := 292) C dX10_costWith_26 (by decide) ?_
      refine jv_iconst (v := 3) C dX10_costWith_29 (by decide) ?_
      refine jv_iload_n C dX10_costWith_30 rfl 3 rfl ?_
      refine jv_imul C dX10_costWith_31 ?_
      refine jv_iadd C dX10_costWith_32 ?_
      refine jv_iconst (v := 2) C dX10_costWith_33 (by decide) ?_
      refine jv_iadd C dX10_costWith_34 ?_
      refine jv_iald C dX10_costWith_35 h (fun v6 h => ?_)
      refine jv_sI0 (As := [.int v4, .int v6]) C lk_X10_263 dX10_costWith_36 rfl rfl (by decide) (by decide) (by decide) (Nat.le_of_ble_eq_true rfl) h (fun _ _ h => ct_X10_costOf h) (fun v8 M7 h => ?_)
      refine jv_iadd C dX10_costWith_39 ?_
      refine jv_istore_n (lv' := [(2, .int (x2 + v8)), (0, .ref a0), (1, .int x1), (3, .int x3)]) C dX10_costWith_40 rfl (by decide) rfl ?_
      refine jv_iinc (v := 1) (lv' := [(3, .int (x3 + 1)), (2, .int (x2 + v8)), (0, .ref a0), (1, .int x1)]) C dX10_costWith_41 3 rfl (by decide) (by decide) rfl ?_
      refine jv_goto (tgt := 4) C dX10_costWith_44 (by decide) ?_
      refine jv_sub [2, 3, 1, 0] rfl ?_
      exact ih _ _ _ _ _ h
def fn_X10_costWith (N : Nat) (M : Mem) (a0 : Nat) (x1 : Int32) : Option (Int32 × Mem) :=
  fn_X10_costWith_4 N N M a0 x1 0 0
set_option maxRecDepth 100000 in
set_option maxHeartbeats 4000000 in
theorem ct_X10_costWith {l : Launch} {ω : Wd} {k N : Nat} {M : Mem} {a0 : Nat} {x1 : Int32} {r : Int32} {M' : Mem} (h : fn_X10_costWith N M a0 x1 = some (r, M')) : CM l ω k yX10_costWith cX10_costWith 4 (some .int) 5 0 0 [.ref a0, .int x1] M (some (.int r)) M' := by
  refine CM.of (by decide) (Nat.le_of_ble_eq_true rfl) fun Γ hl C hr hi => ?_
  subst hl
  unfold fn_X10_costWith at h
  refine jv_iconst (v := 0) C dX10_costWith_0 (by decide) ?_
  refine jv_istore_n (lv' := [(2, .int 0), (0, .ref a0), (1, .int x1)]) C dX10_costWith_1 rfl (by decide) rfl ?_
  refine jv_iconst (v := 0) C dX10_costWith_2 (by decide) ?_
  refine jv_istore_n (lv' := [(3, .int 0), (2, .int 0), (0, .ref a0), (1, .int x1)]) C dX10_costWith_3 rfl (by decide) rfl ?_
  refine jv_sub [2, 3, 1, 0] rfl ?_
  exact bk_X10_costWith_4 C hr _ _ _ _ _ _ h
theorem dX10_diameterOffset_0 : decode cX10_diameterOffset 0 = .ok (.aload_n 0, 1) := by decide +kernel
theorem dX10_diameterOffset_1 : decode cX10_diameterOffset 1 = .ok (.aload_n 0, 1) := by decide +kernel
theorem dX10_diameterOffset_2 : decode cX10_diameterOffset 2 = .ok (.getfield 29, 3) := by decide +kernel
theorem dX10_diameterOffset_5 : decode cX10_diameterOffset 5 = .ok (.iconst 0, 1) := by decide +kernel
theorem dX10_diameterOffset_6 : decode cX10_diameterOffset 6 = .ok (.iaload, 1) := by decide +kernel
theorem dX10_diameterOffset_7 : decode cX10_diameterOffset 7 = .ok (.invokevirtual 167, 3) := by decide +kernel
theorem dX10_diameterOffset_10 : decode cX10_diameterOffset 10 = .ok (.ireturn, 1) := by decide +kernel
def fn_X10_diameterOffset (N : Nat) (M : Mem) (a0 : Nat) : Option (Int32 × Mem) :=
  (mm_gR M a0 10 16).bind fun b1 =>
  (mm_aI M b1 0 0).bind fun v2 =>
  (mm_ck M a0 10).bind fun _ => mm_b2 (fn_X10_told N M a0 v2) fun v4 M3 =>
  some (v4, M3)
set_option maxRecDepth 100000 in
set_option maxHeartbeats 4000000 in
theorem ct_X10_diameterOffset {l : Launch} {ω : Wd} {k N : Nat} {M : Mem} {a0 : Nat} {r : Int32} {M' : Mem} (h : fn_X10_diameterOffset N M a0 = some (r, M')) : CM l ω k yX10_diameterOffset cX10_diameterOffset 1 (some .int) 1 0 0 [.ref a0] M (some (.int r)) M' := by
  refine CM.of (by decide) (Nat.le_of_ble_eq_true rfl) fun Γ hl C hr hi => ?_
  subst hl
  unfold fn_X10_diameterOffset at h
  refine jv_aload_n C dX10_diameterOffset_0 rfl 0 rfl ?_
  refine jv_aload_n C dX10_diameterOffset_1 rfl 0 rfl ?_
  refine jv_getR C fa_X10_29 dX10_diameterOffset_2 h (fun b1 h => ?_)
  refine jv_iconst (v := 0) C dX10_diameterOffset_5 (by decide) ?_
  refine jv_iald C dX10_diameterOffset_6 h (fun v2 h => ?_)
  refine jv_vI0 (As := [.int v2]) C lk_X10_167 rfl dX10_diameterOffset_7 rfl rfl (by decide) (by decide) (by decide) (Nat.le_of_ble_eq_true rfl) h (fun _ _ h => ct_X10_told h) (fun v4 M3 h => ?_)
  exact jv_iret C hr dX10_diameterOffset_10 h
theorem dX10_partOf_0 : decode cX10_partOf 0 = .ok (.aload_n 0, 1) := by decide +kernel
theorem dX10_partOf_1 : decode cX10_partOf 1 = .ok (.getfield 29, 3) := by decide +kernel
theorem dX10_partOf_4 : decode cX10_partOf 4 = .ok (.sipush 262, 3) := by decide +kernel
theorem dX10_partOf_7 : decode cX10_partOf 7 = .ok (.iload_n 1, 1) := by decide +kernel
theorem dX10_partOf_8 : decode cX10_partOf 8 = .ok (.iadd, 1) := by decide +kernel
theorem dX10_partOf_9 : decode cX10_partOf 9 = .ok (.iaload, 1) := by decide +kernel
theorem dX10_partOf_10 : decode cX10_partOf 10 = .ok (.ifCond .ne 5, 3) := by decide +kernel
theorem dX10_partOf_13 : decode cX10_partOf 13 = .ok (.iconst 0, 1) := by decide +kernel
theorem dX10_partOf_14 : decode cX10_partOf 14 = .ok (.ireturn, 1) := by decide +kernel
theorem dX10_partOf_15 : decode cX10_partOf 15 = .ok (.aload_n 0, 1) := by decide +kernel
theorem dX10_partOf_16 : decode cX10_partOf 16 = .ok (.getfield 29, 3) := by decide +kernel
theorem dX10_partOf_19 : decode cX10_partOf 19 = .ok (.sipush 262, 3) := by decide +kernel
theorem dX10_partOf_22 : decode cX10_partOf 22 = .ok (.iload_n 1, 1) := by decide +kernel
theorem dX10_partOf_23 : decode cX10_partOf 23 = .ok (.iadd, 1) := by decide +kernel
theorem dX10_partOf_24 : decode cX10_partOf 24 = .ok (.iaload, 1) := by decide +kernel
theorem dX10_partOf_25 : decode cX10_partOf 25 = .ok (.iconst 1, 1) := by decide +kernel
theorem dX10_partOf_26 : decode cX10_partOf 26 = .ok (.isub, 1) := by decide +kernel
theorem dX10_partOf_27 : decode cX10_partOf 27 = .ok (.aload_n 0, 1) := by decide +kernel
theorem dX10_partOf_28 : decode cX10_partOf 28 = .ok (.getfield 29, 3) := by decide +kernel
theorem dX10_partOf_31 : decode cX10_partOf 31 = .ok (.sipush 232, 3) := by decide +kernel
theorem dX10_partOf_34 : decode cX10_partOf 34 = .ok (.iload_n 1, 1) := by decide +kernel
theorem dX10_partOf_35 : decode cX10_partOf 35 = .ok (.iadd, 1) := by decide +kernel
theorem dX10_partOf_36 : decode cX10_partOf 36 = .ok (.iaload, 1) := by decide +kernel
theorem dX10_partOf_37 : decode cX10_partOf 37 = .ok (.isub, 1) := by decide +kernel
theorem dX10_partOf_38 : decode cX10_partOf 38 = .ok (.aload_n 0, 1) := by decide +kernel
theorem dX10_partOf_39 : decode cX10_partOf 39 = .ok (.getfield 20, 3) := by decide +kernel
theorem dX10_partOf_42 : decode cX10_partOf 42 = .ok (.iconst 5, 1) := by decide +kernel
theorem dX10_partOf_43 : decode cX10_partOf 43 = .ok (.aload_n 0, 1) := by decide +kernel
theorem dX10_partOf_44 : decode cX10_partOf 44 = .ok (.getfield 29, 3) := by decide +kernel
theorem dX10_partOf_47 : decode cX10_partOf 47 = .ok (.sipush 202, 3) := by decide +kernel
theorem dX10_partOf_50 : decode cX10_partOf 50 = .ok (.iload_n 1, 1) := by decide +kernel
theorem dX10_partOf_51 : decode cX10_partOf 51 = .ok (.iadd, 1) := by decide +kernel
theorem dX10_partOf_52 : decode cX10_partOf 52 = .ok (.iaload, 1) := by decide +kernel
theorem dX10_partOf_53 : decode cX10_partOf 53 = .ok (.imul, 1) := by decide +kernel
theorem dX10_partOf_54 : decode cX10_partOf 54 = .ok (.iconst 0, 1) := by decide +kernel
theorem dX10_partOf_55 : decode cX10_partOf 55 = .ok (.iadd, 1) := by decide +kernel
theorem dX10_partOf_56 : decode cX10_partOf 56 = .ok (.iaload, 1) := by decide +kernel
theorem dX10_partOf_57 : decode cX10_partOf 57 = .ok (.imul, 1) := by decide +kernel
theorem dX10_partOf_58 : decode cX10_partOf 58 = .ok (.ireturn, 1) := by decide +kernel
def fn_X10_partOf (N : Nat) (M : Mem) (a0 : Nat) (x1 : Int32) : Option (Int32 × Mem) :=
  (mm_gR M a0 10 16).bind fun b1 =>
  (mm_aI M b1 0 (262 + x1)).bind fun v2 =>
  if v2 = 0 then
    some (0, M)
  else
    (mm_gR M a0 10 16).bind fun b3 =>
    (mm_aI M b3 0 (262 + x1)).bind fun v4 =>
    (mm_gR M a0 10 16).bind fun b5 =>
    (mm_aI M b5 0 (232 + x1)).bind fun v6 =>
    (mm_gR M a0 10 12).bind fun b7 =>
    (mm_gR M a0 10 16).bind fun b8 =>
    (mm_aI M b8 0 (202 + x1)).bind fun v9 =>
    (mm_aI M b7 0 ((5 * v9) + 0)).bind fun v10 =>
    some ((((v4 - 1) - v6) * v10), M)
set_option maxRecDepth 100000 in
set_option maxHeartbeats 4000000 in
theorem ct_X10_partOf {l : Launch} {ω : Wd} {k N : Nat} {M : Mem} {a0 : Nat} {x1 : Int32} {r : Int32} {M' : Mem} (h : fn_X10_partOf N M a0 x1 = some (r, M')) : CM l ω k yX10_partOf cX10_partOf 2 (some .int) 0 0 0 [.ref a0, .int x1] M (some (.int r)) M' := by
  refine CM.of (by decide) (Nat.le_of_ble_eq_true rfl) fun Γ hl C hr hi => ?_
  subst hl
  unfold fn_X10_partOf at h
  refine jv_aload_n C dX10_partOf_0 rfl 0 rfl ?_
  refine jv_getR C fa_X10_29 dX10_partOf_1 h (fun b1 h => ?_)
  refine jv_sipush (v := 262) C dX10_partOf_4 (by decide) ?_
  refine jv_iload_n C dX10_partOf_7 rfl 1 rfl ?_
  refine jv_iadd C dX10_partOf_8 ?_
  refine jv_iald C dX10_partOf_9 h (fun v2 h => ?_)
  refine jv_if_ne (tgt := 15) C dX10_partOf_10 (by decide) h (fun h => ?_) (fun h => ?_)
  · refine jv_aload_n C dX10_partOf_15 rfl 0 rfl ?_
    refine jv_getR C fa_X10_29 dX10_partOf_16 h (fun b3 h => ?_)
    refine jv_sipush (v := 262) C dX10_partOf_19 (by decide) ?_
    refine jv_iload_n C dX10_partOf_22 rfl 1 rfl ?_
    refine jv_iadd C dX10_partOf_23 ?_
    refine jv_iald C dX10_partOf_24 h (fun v4 h => ?_)
    refine jv_iconst (v := 1) C dX10_partOf_25 (by decide) ?_
    refine jv_isub C dX10_partOf_26 ?_
    refine jv_aload_n C dX10_partOf_27 rfl 0 rfl ?_
    refine jv_getR C fa_X10_29 dX10_partOf_28 h (fun b5 h => ?_)
    refine jv_sipush (v := 232) C dX10_partOf_31 (by decide) ?_
    refine jv_iload_n C dX10_partOf_34 rfl 1 rfl ?_
    refine jv_iadd C dX10_partOf_35 ?_
    refine jv_iald C dX10_partOf_36 h (fun v6 h => ?_)
    refine jv_isub C dX10_partOf_37 ?_
    refine jv_aload_n C dX10_partOf_38 rfl 0 rfl ?_
    refine jv_getR C fa_X10_20 dX10_partOf_39 h (fun b7 h => ?_)
    refine jv_iconst (v := 5) C dX10_partOf_42 (by decide) ?_
    refine jv_aload_n C dX10_partOf_43 rfl 0 rfl ?_
    refine jv_getR C fa_X10_29 dX10_partOf_44 h (fun b8 h => ?_)
    refine jv_sipush (v := 202) C dX10_partOf_47 (by decide) ?_
    refine jv_iload_n C dX10_partOf_50 rfl 1 rfl ?_
    refine jv_iadd C dX10_partOf_51 ?_
    refine jv_iald C dX10_partOf_52 h (fun v9 h => ?_)
    refine jv_imul C dX10_partOf_53 ?_
    refine jv_iconst (v := 0) C dX10_partOf_54 (by decide) ?_
    refine jv_iadd C dX10_partOf_55 ?_
    refine jv_iald C dX10_partOf_56 h (fun v10 h => ?_)
    refine jv_imul C dX10_partOf_57 ?_
    exact jv_iret C hr dX10_partOf_58 h
  · refine jv_iconst (v := 0) C dX10_partOf_13 (by decide) ?_
    exact jv_iret C hr dX10_partOf_14 h
theorem dX10_discrepancy_0 : decode cX10_discrepancy 0 = .ok (.iconst 0, 1) := by decide +kernel
theorem dX10_discrepancy_1 : decode cX10_discrepancy 1 = .ok (.istore_n 1, 1) := by decide +kernel
theorem dX10_discrepancy_2 : decode cX10_discrepancy 2 = .ok (.iconst 0, 1) := by decide +kernel
theorem dX10_discrepancy_3 : decode cX10_discrepancy 3 = .ok (.istore_n 2, 1) := by decide +kernel
theorem dX10_discrepancy_4 : decode cX10_discrepancy 4 = .ok (.iload_n 2, 1) := by decide +kernel
theorem dX10_discrepancy_5 : decode cX10_discrepancy 5 = .ok (.aload_n 0, 1) := by decide +kernel
theorem dX10_discrepancy_6 : decode cX10_discrepancy 6 = .ok (.getfield 29, 3) := by decide +kernel
theorem dX10_discrepancy_9 : decode cX10_discrepancy 9 = .ok (.bipush 8, 2) := by decide +kernel
theorem dX10_discrepancy_11 : decode cX10_discrepancy 11 = .ok (.iaload, 1) := by decide +kernel
theorem dX10_discrepancy_12 : decode cX10_discrepancy 12 = .ok (.if_icmp .ge 17, 3) := by decide +kernel
theorem dX10_discrepancy_15 : decode cX10_discrepancy 15 = .ok (.iload_n 1, 1) := by decide +kernel
theorem dX10_discrepancy_16 : decode cX10_discrepancy 16 = .ok (.aload_n 0, 1) := by decide +kernel
theorem dX10_discrepancy_17 : decode cX10_discrepancy 17 = .ok (.iload_n 2, 1) := by decide +kernel
theorem dX10_discrepancy_18 : decode cX10_discrepancy 18 = .ok (.invokevirtual 240, 3) := by decide +kernel
theorem dX10_discrepancy_21 : decode cX10_discrepancy 21 = .ok (.iadd, 1) := by decide +kernel
theorem dX10_discrepancy_22 : decode cX10_discrepancy 22 = .ok (.istore_n 1, 1) := by decide +kernel
theorem dX10_discrepancy_23 : decode cX10_discrepancy 23 = .ok (.iinc 2 1, 3) := by decide +kernel
theorem dX10_discrepancy_26 : decode cX10_discrepancy 26 = .ok (.goto (-22), 3) := by decide +kernel
theorem dX10_discrepancy_29 : decode cX10_discrepancy 29 = .ok (.aload_n 0, 1) := by decide +kernel
theorem dX10_discrepancy_30 : decode cX10_discrepancy 30 = .ok (.iload_n 1, 1) := by decide +kernel
theorem dX10_discrepancy_31 : decode cX10_discrepancy 31 = .ok (.invokevirtual 167, 3) := by decide +kernel
theorem dX10_discrepancy_34 : decode cX10_discrepancy 34 = .ok (.ireturn, 1) := by decide +kernel
def fn_X10_discrepancy_4 (N : Nat) : Nat → Mem → Nat → Int32 → Int32 → Option (Int32 × Mem)
  | 0, _, _, _, _ => none
  | n + 1, M, a0, x1, x2 =>
    (mm_gR M a0 10 16).bind fun b1 =>
    (mm_aI M b1 0 8).bind fun v2 =>
    if v2 ≤ x2 then
      (mm_ck M a0 10).bind fun _ => mm_b2 (fn_X10_told N M a0 x1) fun v4 M3 =>
      some (v4, M3)
    else
      (mm_ck M a0 10).bind fun _ => mm_b2 (fn_X10_partOf N M a0 x2) fun v6 M5 =>
      fn_X10_discrepancy_4 N n M5 a0 ((x1 + v6)) ((x2 + 1))
set_option maxRecDepth 100000 in
set_option maxHeartbeats 4000000 in
theorem bk_X10_discrepancy_4 {Γ : Gm} {ω : Wd} {k N : Nat} {r : Int32} {M' : Mem} (C : Cx Γ cX10_discrepancy 3 RX10 ω 1 0 0) (hr : Γ.meth.sig.returnType = (some .int)) : ∀ (n : Nat) (M : Mem) (a0 : Nat) (x1 : Int32) (x2 : Int32), fn_X10_discrepancy_4 N n M a0 x1 x2 = some (r, M') → JJ Γ (QF Γ ω k 0 0 (some (.int r)) M') 3 ω k M 0 0 4 [(0, .ref a0), (1, .int x1), (2, .int x2)] [] := by
  intro n
  induction n with
  | zero => intro M a0 x1 x2 h; exact jv_no h
  | succ n ih =>
    intro M a0 x1 x2 h
    rw [fn_X10_discrepancy_4.eq_2] at h
    refine jv_iload_n C dX10_discrepancy_4 rfl 2 rfl ?_
    refine jv_aload_n C dX10_discrepancy_5 rfl 0 rfl ?_
    refine jv_getR C fa_X10_29 dX10_discrepancy_6 h (fun b1 h => ?_)
    refine jv_bipush (v := 8) C dX10_discrepancy_9 (by decide) ?_
    refine jv_iald C dX10_discrepancy_11 h (fun v2 h => ?_)
    refine jv_icmp_ge (tgt := 29) C dX10_discrepancy_12 (by decide) h (fun h => ?_) (fun h => ?_)
    · refine jv_aload_n C dX10_discrepancy_29 rfl 0 rfl ?_
      refine jv_iload_n C dX10_discrepancy_30 rfl 1 rfl ?_
      refine jv_vI0 (As := [.int x1]) C lk_X10_167 rfl dX10_discrepancy_31 rfl rfl (by decide) (by decide) (by decide) (Nat.le_of_ble_eq_true rfl) h (fun _ _ h => ct_X10_told h) (fun v4 M3 h => ?_)
      exact jv_iret C hr dX10_discrepancy_34 h
    · refine jv_iload_n C dX10_discrepancy_15 rfl 1 rfl ?_
      refine jv_aload_n C dX10_discrepancy_16 rfl 0 rfl ?_
      refine jv_iload_n C dX10_discrepancy_17 rfl 2 rfl ?_
      refine jv_vI0 (As := [.int x2]) C lk_X10_240 rfl dX10_discrepancy_18 rfl rfl (by decide) (by decide) (by decide) (Nat.le_of_ble_eq_true rfl) h (fun _ _ h => ct_X10_partOf h) (fun v6 M5 h => ?_)
      refine jv_iadd C dX10_discrepancy_21 ?_
      refine jv_istore_n (lv' := [(1, .int (x1 + v6)), (0, .ref a0), (2, .int x2)]) C dX10_discrepancy_22 rfl (by decide) rfl ?_
      refine jv_iinc (v := 1) (lv' := [(2, .int (x2 + 1)), (1, .int (x1 + v6)), (0, .ref a0)]) C dX10_discrepancy_23 2 rfl (by decide) (by decide) rfl ?_
      refine jv_goto (tgt := 4) C dX10_discrepancy_26 (by decide) ?_
      refine jv_sub [2, 1, 0] rfl ?_
      exact ih _ _ _ _ h
def fn_X10_discrepancy (N : Nat) (M : Mem) (a0 : Nat) : Option (Int32 × Mem) :=
  fn_X10_discrepancy_4 N N M a0 0 0
set_option maxRecDepth 100000 in
set_option maxHeartbeats 4000000 in
theorem ct_X10_discrepancy {l : Launch} {ω : Wd} {k N : Nat} {M : Mem} {a0 : Nat} {r : Int32} {M' : Mem} (h : fn_X10_discrepancy N M a0 = some (r, M')) : CM l ω k yX10_discrepancy cX10_discrepancy 3 (some .int) 1 0 0 [.ref a0] M (some (.int r)) M' := by
  refine CM.of (by decide) (Nat.le_of_ble_eq_true rfl) fun Γ hl C hr hi => ?_
  subst hl
  unfold fn_X10_discrepancy at h
  refine jv_iconst (v := 0) C dX10_discrepancy_0 (by decide) ?_
  refine jv_istore_n (lv' := [(1, .int 0), (0, .ref a0)]) C dX10_discrepancy_1 rfl (by decide) rfl ?_
  refine jv_iconst (v := 0) C dX10_discrepancy_2 (by decide) ?_
  refine jv_istore_n (lv' := [(2, .int 0), (1, .int 0), (0, .ref a0)]) C dX10_discrepancy_3 rfl (by decide) rfl ?_
  refine jv_sub [2, 1, 0] rfl ?_
  exact bk_X10_discrepancy_4 C hr _ _ _ _ _ h
theorem dX10_isAmount_0 : decode cX10_isAmount 0 = .ok (.iload_n 0, 1) := by decide +kernel
theorem dX10_isAmount_1 : decode cX10_isAmount 1 = .ok (.i2l, 1) := by decide +kernel
theorem dX10_isAmount_2 : decode cX10_isAmount 2 = .ok (.lconst 1, 1) := by decide +kernel
theorem dX10_isAmount_3 : decode cX10_isAmount 3 = .ok (.ldc2_w 252, 3) := by decide +kernel
theorem dX10_isAmount_6 : decode cX10_isAmount 6 = .ok (.invokestatic 89, 3) := by decide +kernel
theorem dX10_isAmount_9 : decode cX10_isAmount 9 = .ok (.ireturn, 1) := by decide +kernel
def fn_X10_isAmount (N : Nat) (M : Mem) (x0 : Int32) : Option (Int32 × Mem) :=
  mm_b2 (fn_X10_within N M ((Int32.toInt64 x0)) 1 5000) fun v2 M1 =>
  if v2 = 0 ∨ v2 = 1 then some (v2, M1) else none
set_option maxRecDepth 100000 in
set_option maxHeartbeats 4000000 in
theorem ct_X10_isAmount {l : Launch} {ω : Wd} {k N : Nat} {M : Mem} {x0 : Int32} {r : Int32} {M' : Mem} (h : fn_X10_isAmount N M x0 = some (r, M')) : CM l ω k yX10_isAmount cX10_isAmount 1 (some .boolean) 1 0 0 [.int x0] M (some (.int r)) M' := by
  refine CM.of (by decide) (Nat.le_of_ble_eq_true rfl) fun Γ hl C hr hi => ?_
  subst hl
  unfold fn_X10_isAmount at h
  refine jv_iload_n C dX10_isAmount_0 rfl 0 rfl ?_
  refine jv_i2l C dX10_isAmount_1 ?_
  refine jv_lconst (v := 1) C dX10_isAmount_2 (by decide) ?_
  refine jv_ldc2 C gw_1693 dX10_isAmount_3 ?_
  refine jv_sI0 (As := [.long (Int32.toInt64 x0), .long 1, .long 5000]) C lk_X10_89 dX10_isAmount_6 rfl rfl (by decide) (by decide) (by decide) (Nat.le_of_ble_eq_true rfl) h (fun _ _ h => ct_X10_within h) (fun v2 M1 h => ?_)
  exact jv_zret C hr dX10_isAmount_9 h
theorem dX10_fewestAt_0 : decode cX10_fewestAt 0 = .ok (.aload_n 0, 1) := by decide +kernel
theorem dX10_fewestAt_1 : decode cX10_fewestAt 1 = .ok (.getfield 43, 3) := by decide +kernel
theorem dX10_fewestAt_4 : decode cX10_fewestAt 4 = .ok (.sipush 5001, 3) := by decide +kernel
theorem dX10_fewestAt_7 : decode cX10_fewestAt 7 = .ok (.iload_n 1, 1) := by decide +kernel
theorem dX10_fewestAt_8 : decode cX10_fewestAt 8 = .ok (.imul, 1) := by decide +kernel
theorem dX10_fewestAt_9 : decode cX10_fewestAt 9 = .ok (.iload_n 2, 1) := by decide +kernel
theorem dX10_fewestAt_10 : decode cX10_fewestAt 10 = .ok (.iadd, 1) := by decide +kernel
theorem dX10_fewestAt_11 : decode cX10_fewestAt 11 = .ok (.iaload, 1) := by decide +kernel
theorem dX10_fewestAt_12 : decode cX10_fewestAt 12 = .ok (.ireturn, 1) := by decide +kernel
def fn_X10_fewestAt (N : Nat) (M : Mem) (a0 : Nat) (x1 : Int32) (x2 : Int32) : Option (Int32 × Mem) :=
  (mm_gR M a0 10 25).bind fun b1 =>
  (mm_aI M b1 0 ((5001 * x1) + x2)).bind fun v2 =>
  some (v2, M)
set_option maxRecDepth 100000 in
set_option maxHeartbeats 4000000 in
theorem ct_X10_fewestAt {l : Launch} {ω : Wd} {k N : Nat} {M : Mem} {a0 : Nat} {x1 : Int32} {x2 : Int32} {r : Int32} {M' : Mem} (h : fn_X10_fewestAt N M a0 x1 x2 = some (r, M')) : CM l ω k yX10_fewestAt cX10_fewestAt 3 (some .int) 0 0 0 [.ref a0, .int x1, .int x2] M (some (.int r)) M' := by
  refine CM.of (by decide) (Nat.le_of_ble_eq_true rfl) fun Γ hl C hr hi => ?_
  subst hl
  unfold fn_X10_fewestAt at h
  refine jv_aload_n C dX10_fewestAt_0 rfl 0 rfl ?_
  refine jv_getR C fa_X10_43 dX10_fewestAt_1 h (fun b1 h => ?_)
  refine jv_sipush (v := 5001) C dX10_fewestAt_4 (by decide) ?_
  refine jv_iload_n C dX10_fewestAt_7 rfl 1 rfl ?_
  refine jv_imul C dX10_fewestAt_8 ?_
  refine jv_iload_n C dX10_fewestAt_9 rfl 2 rfl ?_
  refine jv_iadd C dX10_fewestAt_10 ?_
  refine jv_iald C dX10_fewestAt_11 h (fun v2 h => ?_)
  exact jv_iret C hr dX10_fewestAt_12 h
