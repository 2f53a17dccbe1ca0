theorem dX10_layPayouts_0 : decode cX10_layPayouts 0 = .ok (.iconst 0, 1) := by decide +kernel
theorem dX10_layPayouts_1 : decode cX10_layPayouts 1 = .ok (.istore_n 2, 1) := by decide +kernel
theorem dX10_layPayouts_2 : decode cX10_layPayouts 2 = .ok (.iload_n 2, 1) := by decide +kernel
theorem dX10_layPayouts_3 : decode cX10_layPayouts 3 = .ok (.bipush 8, 2) := by decide +kernel
theorem dX10_layPayouts_5 : decode cX10_layPayouts 5 = .ok (.if_icmp .ge 16, 3) := by decide +kernel
theorem dX10_layPayouts_8 : decode cX10_layPayouts 8 = .ok (.aload_n 0, 1) := by decide +kernel
theorem dX10_layPayouts_9 : decode cX10_layPayouts 9 = .ok (.getfield 46, 3) := by decide +kernel
theorem dX10_layPayouts_12 : decode cX10_layPayouts 12 = .ok (.iload_n 2, 1) := by decide +kernel
theorem dX10_layPayouts_13 : decode cX10_layPayouts 13 = .ok (.iconst 0, 1) := by decide +kernel
theorem dX10_layPayouts_14 : decode cX10_layPayouts 14 = .ok (.iastore, 1) := by decide +kernel
theorem dX10_layPayouts_15 : decode cX10_layPayouts 15 = .ok (.iinc 2 1, 3) := by decide +kernel
theorem dX10_layPayouts_18 : decode cX10_layPayouts 18 = .ok (.goto (-16), 3) := by decide +kernel
theorem dX10_layPayouts_21 : decode cX10_layPayouts 21 = .ok (.iconst 0, 1) := by decide +kernel
theorem dX10_layPayouts_22 : decode cX10_layPayouts 22 = .ok (.istore_n 2, 1) := by decide +kernel
theorem dX10_layPayouts_23 : decode cX10_layPayouts 23 = .ok (.iload_n 2, 1) := by decide +kernel
theorem dX10_layPayouts_24 : decode cX10_layPayouts 24 = .ok (.aload_n 0, 1) := by decide +kernel
theorem dX10_layPayouts_25 : decode cX10_layPayouts 25 = .ok (.getfield 13, 3) := by decide +kernel
theorem dX10_layPayouts_28 : decode cX10_layPayouts 28 = .ok (.iconst 2, 1) := by decide +kernel
theorem dX10_layPayouts_29 : decode cX10_layPayouts 29 = .ok (.iaload, 1) := by decide +kernel
theorem dX10_layPayouts_30 : decode cX10_layPayouts 30 = .ok (.if_icmp .ge 32, 3) := by decide +kernel
theorem dX10_layPayouts_33 : decode cX10_layPayouts 33 = .ok (.aload_n 0, 1) := by decide +kernel
theorem dX10_layPayouts_34 : decode cX10_layPayouts 34 = .ok (.getfield 46, 3) := by decide +kernel
theorem dX10_layPayouts_37 : decode cX10_layPayouts 37 = .ok (.aload_n 0, 1) := by decide +kernel
theorem dX10_layPayouts_38 : decode cX10_layPayouts 38 = .ok (.getfield 23, 3) := by decide +kernel
theorem dX10_layPayouts_41 : decode cX10_layPayouts 41 = .ok (.iload_n 2, 1) := by decide +kernel
theorem dX10_layPayouts_42 : decode cX10_layPayouts 42 = .ok (.iaload, 1) := by decide +kernel
theorem dX10_layPayouts_43 : decode cX10_layPayouts 43 = .ok (.dup2, 1) := by decide +kernel
theorem dX10_layPayouts_44 : decode cX10_layPayouts 44 = .ok (.iaload, 1) := by decide +kernel
theorem dX10_layPayouts_45 : decode cX10_layPayouts 45 = .ok (.aload_n 0, 1) := by decide +kernel
theorem dX10_layPayouts_46 : decode cX10_layPayouts 46 = .ok (.getfield 29, 3) := by decide +kernel
theorem dX10_layPayouts_49 : decode cX10_layPayouts 49 = .ok (.bipush 14, 2) := by decide +kernel
theorem dX10_layPayouts_51 : decode cX10_layPayouts 51 = .ok (.iload_n 2, 1) := by decide +kernel
theorem dX10_layPayouts_52 : decode cX10_layPayouts 52 = .ok (.iadd, 1) := by decide +kernel
theorem dX10_layPayouts_53 : decode cX10_layPayouts 53 = .ok (.iaload, 1) := by decide +kernel
theorem dX10_layPayouts_54 : decode cX10_layPayouts 54 = .ok (.iadd, 1) := by decide +kernel
theorem dX10_layPayouts_55 : decode cX10_layPayouts 55 = .ok (.iastore, 1) := by decide +kernel
theorem dX10_layPayouts_56 : decode cX10_layPayouts 56 = .ok (.iinc 2 1, 3) := by decide +kernel
theorem dX10_layPayouts_59 : decode cX10_layPayouts 59 = .ok (.goto (-36), 3) := by decide +kernel
theorem dX10_layPayouts_62 : decode cX10_layPayouts 62 = .ok (.aload_n 0, 1) := by decide +kernel
theorem dX10_layPayouts_63 : decode cX10_layPayouts 63 = .ok (.getfield 13, 3) := by decide +kernel
theorem dX10_layPayouts_66 : decode cX10_layPayouts 66 = .ok (.iconst 0, 1) := by decide +kernel
theorem dX10_layPayouts_67 : decode cX10_layPayouts 67 = .ok (.iaload, 1) := by decide +kernel
theorem dX10_layPayouts_68 : decode cX10_layPayouts 68 = .ok (.istore_n 2, 1) := by decide +kernel
theorem dX10_layPayouts_69 : decode cX10_layPayouts 69 = .ok (.iconst 0, 1) := by decide +kernel
theorem dX10_layPayouts_70 : decode cX10_layPayouts 70 = .ok (.istore_n 3, 1) := by decide +kernel
theorem dX10_layPayouts_71 : decode cX10_layPayouts 71 = .ok (.iload_n 3, 1) := by decide +kernel
theorem dX10_layPayouts_72 : decode cX10_layPayouts 72 = .ok (.iload_n 1, 1) := by decide +kernel
theorem dX10_layPayouts_73 : decode cX10_layPayouts 73 = .ok (.if_icmp .gt 31, 3) := by decide +kernel
theorem dX10_layPayouts_76 : decode cX10_layPayouts 76 = .ok (.aload_n 0, 1) := by decide +kernel
theorem dX10_layPayouts_77 : decode cX10_layPayouts 77 = .ok (.getfield 43, 3) := by decide +kernel
theorem dX10_layPayouts_80 : decode cX10_layPayouts 80 = .ok (.sipush 5001, 3) := by decide +kernel
theorem dX10_layPayouts_83 : decode cX10_layPayouts 83 = .ok (.iload_n 2, 1) := by decide +kernel
theorem dX10_layPayouts_84 : decode cX10_layPayouts 84 = .ok (.imul, 1) := by decide +kernel
theorem dX10_layPayouts_85 : decode cX10_layPayouts 85 = .ok (.iload_n 3, 1) := by decide +kernel
theorem dX10_layPayouts_86 : decode cX10_layPayouts 86 = .ok (.iadd, 1) := by decide +kernel
theorem dX10_layPayouts_87 : decode cX10_layPayouts 87 = .ok (.iload_n 3, 1) := by decide +kernel
theorem dX10_layPayouts_88 : decode cX10_layPayouts 88 = .ok (.ifCond .ne 7, 3) := by decide +kernel
theorem dX10_layPayouts_91 : decode cX10_layPayouts 91 = .ok (.iconst 0, 1) := by decide +kernel
theorem dX10_layPayouts_92 : decode cX10_layPayouts 92 = .ok (.goto 5, 3) := by decide +kernel
theorem dX10_layPayouts_95 : decode cX10_layPayouts 95 = .ok (.ldc 180, 2) := by decide +kernel
theorem dX10_layPayouts_97 : decode cX10_layPayouts 97 = .ok (.iastore, 1) := by decide +kernel
theorem dX10_layPayouts_98 : decode cX10_layPayouts 98 = .ok (.iinc 3 1, 3) := by decide +kernel
theorem dX10_layPayouts_101 : decode cX10_layPayouts 101 = .ok (.goto (-30), 3) := by decide +kernel
theorem dX10_layPayouts_104 : decode cX10_layPayouts 104 = .ok (.iload_n 2, 1) := by decide +kernel
theorem dX10_layPayouts_105 : decode cX10_layPayouts 105 = .ok (.iconst 1, 1) := by decide +kernel
theorem dX10_layPayouts_106 : decode cX10_layPayouts 106 = .ok (.isub, 1) := by decide +kernel
theorem dX10_layPayouts_107 : decode cX10_layPayouts 107 = .ok (.istore_n 3, 1) := by decide +kernel
theorem dX10_layPayouts_108 : decode cX10_layPayouts 108 = .ok (.iload_n 3, 1) := by decide +kernel
theorem dX10_layPayouts_109 : decode cX10_layPayouts 109 = .ok (.ifCond .lt 104, 3) := by decide +kernel
theorem dX10_layPayouts_112 : decode cX10_layPayouts 112 = .ok (.iconst 0, 1) := by decide +kernel
theorem dX10_layPayouts_113 : decode cX10_layPayouts 113 = .ok (.istore 4, 2) := by decide +kernel
theorem dX10_layPayouts_115 : decode cX10_layPayouts 115 = .ok (.iload 4, 2) := by decide +kernel
theorem dX10_layPayouts_117 : decode cX10_layPayouts 117 = .ok (.iload_n 1, 1) := by decide +kernel
theorem dX10_layPayouts_118 : decode cX10_layPayouts 118 = .ok (.if_icmp .gt 89, 3) := by decide +kernel
theorem dX10_layPayouts_121 : decode cX10_layPayouts 121 = .ok (.ldc 180, 2) := by decide +kernel
theorem dX10_layPayouts_123 : decode cX10_layPayouts 123 = .ok (.istore 5, 2) := by decide +kernel
theorem dX10_layPayouts_125 : decode cX10_layPayouts 125 = .ok (.iconst 0, 1) := by decide +kernel
theorem dX10_layPayouts_126 : decode cX10_layPayouts 126 = .ok (.istore 6, 2) := by decide +kernel
theorem dX10_layPayouts_128 : decode cX10_layPayouts 128 = .ok (.iload 6, 2) := by decide +kernel
theorem dX10_layPayouts_130 : decode cX10_layPayouts 130 = .ok (.aload_n 0, 1) := by decide +kernel
theorem dX10_layPayouts_131 : decode cX10_layPayouts 131 = .ok (.getfield 46, 3) := by decide +kernel
theorem dX10_layPayouts_134 : decode cX10_layPayouts 134 = .ok (.iload_n 3, 1) := by decide +kernel
theorem dX10_layPayouts_135 : decode cX10_layPayouts 135 = .ok (.iaload, 1) := by decide +kernel
theorem dX10_layPayouts_136 : decode cX10_layPayouts 136 = .ok (.if_icmp .gt 50, 3) := by decide +kernel
theorem dX10_layPayouts_139 : decode cX10_layPayouts 139 = .ok (.iload 6, 2) := by decide +kernel
theorem dX10_layPayouts_141 : decode cX10_layPayouts 141 = .ok (.aload_n 0, 1) := by decide +kernel
theorem dX10_layPayouts_142 : decode cX10_layPayouts 142 = .ok (.iload_n 3, 1) := by decide +kernel
theorem dX10_layPayouts_143 : decode cX10_layPayouts 143 = .ok (.invokevirtual 243, 3) := by decide +kernel
theorem dX10_layPayouts_146 : decode cX10_layPayouts 146 = .ok (.imul, 1) := by decide +kernel
theorem dX10_layPayouts_147 : decode cX10_layPayouts 147 = .ok (.iload 4, 2) := by decide +kernel
theorem dX10_layPayouts_149 : decode cX10_layPayouts 149 = .ok (.if_icmp .gt 37, 3) := by decide +kernel
theorem dX10_layPayouts_152 : decode cX10_layPayouts 152 = .ok (.iload 5, 2) := by decide +kernel
theorem dX10_layPayouts_154 : decode cX10_layPayouts 154 = .ok (.iload 6, 2) := by decide +kernel
theorem dX10_layPayouts_156 : decode cX10_layPayouts 156 = .ok (.aload_n 0, 1) := by decide +kernel
theorem dX10_layPayouts_157 : decode cX10_layPayouts 157 = .ok (.iload_n 3, 1) := by decide +kernel
theorem dX10_layPayouts_158 : decode cX10_layPayouts 158 = .ok (.iconst 1, 1) := by decide +kernel
theorem dX10_layPayouts_159 : decode cX10_layPayouts 159 = .ok (.iadd, 1) := by decide +kernel
theorem dX10_layPayouts_160 : decode cX10_layPayouts 160 = .ok (.iload 4, 2) := by decide +kernel
theorem dX10_layPayouts_162 : decode cX10_layPayouts 162 = .ok (.iload 6, 2) := by decide +kernel
theorem dX10_layPayouts_164 : decode cX10_layPayouts 164 = .ok (.aload_n 0, 1) := by decide +kernel
theorem dX10_layPayouts_165 : decode cX10_layPayouts 165 = .ok (.iload_n 3, 1) := by decide +kernel
theorem dX10_layPayouts_166 : decode cX10_layPayouts 166 = .ok (.invokevirtual 243, 3) := by decide +kernel
theorem dX10_layPayouts_169 : decode cX10_layPayouts 169 = .ok (.imul, 1) := by decide +kernel
theorem dX10_layPayouts_170 : decode cX10_layPayouts 170 = .ok (.isub, 1) := by decide +kernel
theorem dX10_layPayouts_171 : decode cX10_layPayouts 171 = .ok (.invokevirtual 246, 3) := by decide +kernel
theorem dX10_layPayouts_174 : decode cX10_layPayouts 174 = .ok (.iadd, 1) := by decide +kernel
theorem dX10_layPayouts_175 : decode cX10_layPayouts 175 = .ok (.invokestatic 196, 3) := by decide +kernel
theorem dX10_layPayouts_178 : decode cX10_layPayouts 178 = .ok (.istore 5, 2) := by decide +kernel
theorem dX10_layPayouts_180 : decode cX10_layPayouts 180 = .ok (.iinc 6 1, 3) := by decide +kernel
theorem dX10_layPayouts_183 : decode cX10_layPayouts 183 = .ok (.goto (-55), 3) := by decide +kernel
theorem dX10_layPayouts_186 : decode cX10_layPayouts 186 = .ok (.aload_n 0, 1) := by decide +kernel
theorem dX10_layPayouts_187 : decode cX10_layPayouts 187 = .ok (.getfield 43, 3) := by decide +kernel
theorem dX10_layPayouts_190 : decode cX10_layPayouts 190 = .ok (.sipush 5001, 3) := by decide +kernel
theorem dX10_layPayouts_193 : decode cX10_layPayouts 193 = .ok (.iload_n 3, 1) := by decide +kernel
theorem dX10_layPayouts_194 : decode cX10_layPayouts 194 = .ok (.imul, 1) := by decide +kernel
theorem dX10_layPayouts_195 : decode cX10_layPayouts 195 = .ok (.iload 4, 2) := by decide +kernel
theorem dX10_layPayouts_197 : decode cX10_layPayouts 197 = .ok (.iadd, 1) := by decide +kernel
theorem dX10_layPayouts_198 : decode cX10_layPayouts 198 = .ok (.iload 5, 2) := by decide +kernel
theorem dX10_layPayouts_200 : decode cX10_layPayouts 200 = .ok (.iastore, 1) := by decide +kernel
theorem dX10_layPayouts_201 : decode cX10_layPayouts 201 = .ok (.iinc 4 1, 3) := by decide +kernel
theorem dX10_layPayouts_204 : decode cX10_layPayouts 204 = .ok (.goto (-89), 3) := by decide +kernel
theorem dX10_layPayouts_207 : decode cX10_layPayouts 207 = .ok (.iinc 3 (-1), 3) := by decide +kernel
theorem dX10_layPayouts_210 : decode cX10_layPayouts 210 = .ok (.goto (-102), 3) := by decide +kernel
theorem dX10_layPayouts_213 : decode cX10_layPayouts 213 = .ok (.return_, 1) := by decide +kernel
def fn_X10_layPayouts_186 (N : Nat) (K108 : Mem → Nat → Int32 → Int32 → Option (Unit × Mem)) (K115 : Mem → Nat → Int32 → Int32 → Int32 → Option (Unit × Mem)) (M : Mem) (a0 : Nat) (x1 : Int32) (x3 : Int32) (x4 : Int32) (x5 : Int32) : Option (Unit × Mem) :=
  (mm_gR M a0 10 25).bind fun b1 =>
  (mm_sI M b1 0 ((5001 * x3) + x4) x5).bind fun M2 =>
  K115 M2 a0 x1 x3 ((x4 + 1))
set_option maxRecDepth 100000 in
set_option maxHeartbeats 4000000 in
theorem bk_X10_layPayouts_186 {Γ : Gm} {ω : Wd} {k N : Nat} {r : Unit} {M' : Mem} (C : Cx Γ cX10_layPayouts 7 RX10 ω 1 0 0) (hr : Γ.meth.sig.returnType = none) {K108 : Mem → Nat → Int32 → Int32 → Option (Unit × Mem)} (hK108 : ∀ (M : Mem) (a0 : Nat) (x1 : Int32) (x3 : Int32), K108 M a0 x1 x3 = some (r, M') → JJ Γ (QF Γ ω k 0 0 none M') 7 ω k M 0 0 108 [(0, .ref a0), (1, .int x1), (3, .int x3)] []) {K115 : Mem → Nat → Int32 → Int32 → Int32 → Option (Unit × Mem)} (hK115 : ∀ (M : Mem) (a0 : Nat) (x1 : Int32) (x3 : Int32) (x4 : Int32), K115 M a0 x1 x3 x4 = some (r, M') → JJ Γ (QF Γ ω k 0 0 none M') 7 ω k M 0 0 115 [(0, .ref a0), (1, .int x1), (3, .int x3), (4, .int x4)] []) (M : Mem) (a0 : Nat) (x1 : Int32) (x3 : Int32) (x4 : Int32) (x5 : Int32) (h : fn_X10_layPayouts_186 N K108 K115 M a0 x1 x3 x4 x5 = some (r, M')) : JJ Γ (QF Γ ω k 0 0 none M') 7 ω k M 0 0 186 [(0, .ref a0), (1, .int x1), (3, .int x3), (4, .int x4), (5, .int x5)] [] := by
  unfold fn_X10_layPayouts_186 at h
  refine jv_aload_n C dX10_layPayouts_186 rfl 0 rfl ?_
  refine jv_getR C fa_X10_43 dX10_layPayouts_187 h (fun b1 h => ?_)
  refine jv_sipush (v := 5001) C dX10_layPayouts_190 (by decide) ?_
  refine jv_iload_n C dX10_layPayouts_193 rfl 2 rfl ?_
  refine jv_imul C dX10_layPayouts_194 ?_
  refine jv_iload C dX10_layPayouts_195 3 rfl ?_
  refine jv_iadd C dX10_layPayouts_197 ?_
  refine jv_iload C dX10_layPayouts_198 4 rfl ?_
  refine jv_iast C dX10_layPayouts_200 h (fun M2 h => ?_)
  refine jv_iinc (v := 1) (lv' := [(4, .int (x4 + 1)), (0, .ref a0), (1, .int x1), (3, .int x3), (5, .int x5)]) C dX10_layPayouts_201 3 rfl (by decide) (by decide) rfl ?_
  refine jv_goto (tgt := 115) C dX10_layPayouts_204 (by decide) ?_
  refine jv_sub [1, 2, 3, 0] rfl ?_
  exact hK115 _ _ _ _ _ h
def fn_X10_layPayouts_128 (N : Nat) (K108 : Mem → Nat → Int32 → Int32 → Option (Unit × Mem)) (K115 : Mem → Nat → Int32 → Int32 → Int32 → Option (Unit × Mem)) : Nat → Mem → Nat → Int32 → Int32 → Int32 → Int32 → Int32 → Option (Unit × Mem)
  | 0, _, _, _, _, _, _, _ => none
  | n + 1, M, a0, x1, x3, x4, x5, x6 =>
    (mm_gR M a0 10 26).bind fun b1 =>
    (mm_aI M b1 0 x3).bind fun v2 =>
    if v2 < x6 then
      fn_X10_layPayouts_186 N K108 K115 M a0 x1 x3 x4 x5
    else
      (mm_ck M a0 10).bind fun _ => mm_b2 (fn_X10_coinValue N M a0 x3) fun v4 M3 =>
      if x4 < (x6 * v4) then
        fn_X10_layPayouts_186 N K108 K115 M3 a0 x1 x3 x4 x5
      else
        (mm_ck M3 a0 10).bind fun _ => mm_b2 (fn_X10_coinValue N M3 a0 x3) fun v6 M5 =>
        (mm_ck M5 a0 10).bind fun _ => mm_b2 (fn_X10_fewestAt N M5 a0 ((x3 + 1)) ((x4 - (x6 * v6)))) fun v8 M7 =>
        mm_lt (if (x6 + v8) < x5 then (x6 + v8) else x5) fun v9 =>
        fn_X10_layPayouts_128 N K108 K115 n M7 a0 x1 x3 x4 v9 ((x6 + 1))
set_option maxRecDepth 100000 in
set_option maxHeartbeats 4000000 in
theorem bk_X10_layPayouts_128 {Γ : Gm} {ω : Wd} {k N : Nat} {r : Unit} {M' : Mem} (C : Cx Γ cX10_layPayouts 7 RX10 ω 1 0 0) (hr : Γ.meth.sig.returnType = none) {K108 : Mem → Nat → Int32 → Int32 → Option (Unit × Mem)} (hK108 : ∀ (M : Mem) (a0 : Nat) (x1 : Int32) (x3 : Int32), K108 M a0 x1 x3 = some (r, M') → JJ Γ (QF Γ ω k 0 0 none M') 7 ω k M 0 0 108 [(0, .ref a0), (1, .int x1), (3, .int x3)] []) {K115 : Mem → Nat → Int32 → Int32 → Int32 → Option (Unit × Mem)} (hK115 : ∀ (M : Mem) (a0 : Nat) (x1 : Int32) (x3 : Int32) (x4 : Int32), K115 M a0 x1 x3 x4 = some (r, M') → JJ Γ (QF Γ ω k 0 0 none M') 7 ω k M 0 0 115 [(0, .ref a0), (1, .int x1), (3, .int x3), (4, .int x4)] []) : ∀ (n : Nat) (M : Mem) (a0 : Nat) (x1 : Int32) (x3 : Int32) (x4 : Int32) (x5 : Int32) (x6 : Int32), fn_X10_layPayouts_128 N K108 K115 n M a0 x1 x3 x4 x5 x6 = some (r, M') → JJ Γ (QF Γ ω k 0 0 none M') 7 ω k M 0 0 128 [(0, .ref a0), (1, .int x1), (3, .int x3), (4, .int x4), (5, .int x5), (6, .int x6)] [] := by
  intro n
  induction n with
  | zero => intro M a0 x1 x3 x4 x5 x6 h; exact jv_no h
  | succ n ih =>
    intro M a0 x1 x3 x4 x5 x6 h
    rw [fn_X10_layPayouts_128.eq_2] at h
    refine jv_iload C dX10_layPayouts_128 5 rfl ?_
    refine jv_aload_n C dX10_layPayouts_130 rfl 0 rfl ?_
    refine jv_getR C fa_X10_46 dX10_layPayouts_131 h (fun b1 h => ?_)
    refine jv_iload_n C dX10_layPayouts_134 rfl 2 rfl ?_
    refine jv_iald C dX10_layPayouts_135 h (fun v2 h => ?_)
    refine jv_icmp_gt (tgt := 186) C dX10_layPayouts_136 (by decide) h (fun h => ?_) (fun h => ?_)
    · refine jv_sub [0, 1, 2, 3, 4] rfl ?_
      exact bk_X10_layPayouts_186 C hr hK108 hK115 _ _ _ _ _ _ h
    · refine jv_iload C dX10_layPayouts_139 5 rfl ?_
      refine jv_aload_n C dX10_layPayouts_141 rfl 0 rfl ?_
      refine jv_iload_n C dX10_layPayouts_142 rfl 2 rfl ?_
      refine jv_vI0 (As := [.int x3]) C lk_X10_243 rfl dX10_layPayouts_143 rfl rfl (by decide) (by decide) (by decide) (Nat.le_of_ble_eq_true rfl) h (fun _ _ h => ct_X10_coinValue h) (fun v4 M3 h => ?_)
      refine jv_imul C dX10_layPayouts_146 ?_
      refine jv_iload C dX10_layPayouts_147 3 rfl ?_
      refine jv_icmp_gt (tgt := 186) C dX10_layPayouts_149 (by decide) h (fun h => ?_) (fun h => ?_)
      · refine jv_sub [0, 1, 2, 3, 4] rfl ?_
        exact bk_X10_layPayouts_186 C hr hK108 hK115 _ _ _ _ _ _ h
      · refine jv_iload C dX10_layPayouts_152 4 rfl ?_
        refine jv_iload C dX10_layPayouts_154 5 rfl ?_
        refine jv_aload_n C dX10_layPayouts_156 rfl 0 rfl ?_
        refine jv_iload_n C dX10_layPayouts_157 rfl 2 rfl ?_
        refine jv_iconst (v := 1) C dX10_layPayouts_158 (by decide) ?_
        refine jv_iadd C dX10_layPayouts_159 ?_
        refine jv_iload C dX10_layPayouts_160 3 rfl ?_
        refine jv_iload C dX10_layPayouts_162 5 rfl ?_
        refine jv_aload_n C dX10_layPayouts_164 rfl 0 rfl ?_
        refine jv_iload_n C dX10_layPayouts_165 rfl 2 rfl ?_
        refine jv_vI0 (As := [.int x3]) C lk_X10_243 rfl dX10_layPayouts_166 rfl rfl (by decide) (by decide) (by decide) (Nat.le_of_ble_eq_true rfl) h (fun _ _ h => ct_X10_coinValue h) (fun v6 M5 h => ?_)
        refine jv_imul C dX10_layPayouts_169 ?_
        refine jv_isub C dX10_layPayouts_170 ?_
        refine jv_vI0 (As := [.int (x3 + 1), .int (x4 - (x6 * v6))]) C lk_X10_246 rfl dX10_layPayouts_171 rfl rfl (by decide) (by decide) (by decide) (Nat.le_of_ble_eq_true rfl) h (fun _ _ h => ct_X10_fewestAt h) (fun v8 M7 h => ?_)
        refine jv_iadd C dX10_layPayouts_174 ?_
        refine jv_mmin C gw_1576 gw_280 gw_98 gw_281 (by decide) (by decide) (Nat.le_of_ble_eq_true rfl) dX10_layPayouts_175 ?_
        refine jv_nameI h (fun v9 h => ?_)
        refine jv_istore (lv' := [(5, .int v9), (0, .ref a0), (1, .int x1), (3, .int x3), (4, .int x4), (6, .int x6)]) C dX10_layPayouts_178 (by decide) rfl ?_
        refine jv_iinc (v := 1) (lv' := [(6, .int (x6 + 1)), (5, .int v9), (0, .ref a0), (1, .int x1), (3, .int x3), (4, .int x4)]) C dX10_layPayouts_180 5 rfl (by decide) (by decide) rfl ?_
        refine jv_goto (tgt := 128) C dX10_layPayouts_183 (by decide) ?_
        refine jv_sub [2, 3, 4, 5, 1, 0] rfl ?_
        exact ih _ _ _ _ _ _ _ h
def fn_X10_layPayouts_115 (N : Nat) (K108 : Mem → Nat → Int32 → Int32 → Option (Unit × Mem)) : Nat → Mem → Nat → Int32 → Int32 → Int32 → Option (Unit × Mem)
  | 0, _, _, _, _, _ => none
  | n + 1, M, a0, x1, x3, x4 =>
    if x1 < x4 then
      K108 M a0 x1 ((x3 + (-1)))
    else
      fn_X10_layPayouts_128 N K108 (fn_X10_layPayouts_115 N K108 n) N M a0 x1 x3 x4 1000000 0
set_option maxRecDepth 100000 in
set_option maxHeartbeats 4000000 in
theorem bk_X10_layPayouts_115 {Γ : Gm} {ω : Wd} {k N : Nat} {r : Unit} {M' : Mem} (C : Cx Γ cX10_layPayouts 7 RX10 ω 1 0 0) (hr : Γ.meth.sig.returnType = none) {K108 : Mem → Nat → Int32 → Int32 → Option (Unit × Mem)} (hK108 : ∀ (M : Mem) (a0 : Nat) (x1 : Int32) (x3 : Int32), K108 M a0 x1 x3 = some (r, M') → JJ Γ (QF Γ ω k 0 0 none M') 7 ω k M 0 0 108 [(0, .ref a0), (1, .int x1), (3, .int x3)] []) : ∀ (n : Nat) (M : Mem) (a0 : Nat) (x1 : Int32) (x3 : Int32) (x4 : Int32), fn_X10_layPayouts_115 N K108 n M a0 x1 x3 x4 = some (r, M') → JJ Γ (QF Γ ω k 0 0 none M') 7 ω k M 0 0 115 [(0, .ref a0), (1, .int x1), (3, .int x3), (4, .int x4)] [] := by
  intro n
  induction n with
  | zero => intro M a0 x1 x3 x4 h; exact jv_no h
  | succ n ih =>
    intro M a0 x1 x3 x4 h
    rw [fn_X10_layPayouts_115.eq_2] at h
    refine jv_iload C dX10_layPayouts_115 3 rfl ?_
    refine jv_iload_n C dX10_layPayouts_117 rfl 1 rfl ?_
    refine jv_icmp_gt (tgt := 207) C dX10_layPayouts_118 (by decide) h (fun h => ?_) (fun h => ?_)
    · refine jv_iinc (v := (-1)) (lv' := [(3, .int (x3 + (-1))), (0, .ref a0), (1, .int x1), (4, .int x4)]) C dX10_layPayouts_207 2 rfl (by decide) (by decide) rfl ?_
      refine jv_goto (tgt := 108) C dX10_layPayouts_210 (by decide) ?_
      refine jv_sub [1, 2, 0] rfl ?_
      exact hK108 _ _ _ _ h
    · refine jv_ldc C gw_1563 dX10_layPayouts_121 ?_
      refine jv_istore (lv' := [(5, .int 1000000), (0, .ref a0), (1, .int x1), (3, .int x3), (4, .int x4)]) C dX10_layPayouts_123 (by decide) rfl ?_
      refine jv_iconst (v := 0) C dX10_layPayouts_125 (by decide) ?_
      refine jv_istore (lv' := [(6, .int 0), (5, .int 1000000), (0, .ref a0), (1, .int x1), (3, .int x3), (4, .int x4)]) C dX10_layPayouts_126 (by decide) rfl ?_
      refine jv_sub [2, 3, 4, 5, 1, 0] rfl ?_
      exact bk_X10_layPayouts_128 C hr hK108 ih _ _ _ _ _ _ _ _ h
def fn_X10_layPayouts_108 (N : Nat) : Nat → Mem → Nat → Int32 → Int32 → Option (Unit × Mem)
  | 0, _, _, _, _ => none
  | n + 1, M, a0, x1, x3 =>
    if x3 < 0 then
      some ((), M)
    else
      fn_X10_layPayouts_115 N (fn_X10_layPayouts_108 N n) N M a0 x1 x3 0
set_option maxRecDepth 100000 in
set_option maxHeartbeats 4000000 in
theorem bk_X10_layPayouts_108 {Γ : Gm} {ω : Wd} {k N : Nat} {r : Unit} {M' : Mem} (C : Cx Γ cX10_layPayouts 7 RX10 ω 1 0 0) (hr : Γ.meth.sig.returnType = none) : ∀ (n : Nat) (M : Mem) (a0 : Nat) (x1 : Int32) (x3 : Int32), fn_X10_layPayouts_108 N n M a0 x1 x3 = some (r, M') → JJ Γ (QF Γ ω k 0 0 none M') 7 ω k M 0 0 108 [(0, .ref a0), (1, .int x1), (3, .int x3)] [] := by
  intro n
  induction n with
  | zero => intro M a0 x1 x3 h; exact jv_no h
  | succ n ih =>
    intro M a0 x1 x3 h
    rw [fn_X10_layPayouts_108.eq_2] at h
    refine jv_iload_n C dX10_layPayouts_108 rfl 2 rfl ?_
    refine jv_if_lt (tgt := 213) C dX10_layPayouts_109 (by decide) h (fun h => ?_) (fun h => ?_)
    · exact jv_vret C hr dX10_layPayouts_213 h
    · refine jv_iconst (v := 0) C dX10_layPayouts_112 (by decide) ?_
      refine jv_istore (lv' := [(4, .int 0), (0, .ref a0), (1, .int x1), (3, .int x3)]) C dX10_layPayouts_113 (by decide) rfl ?_
      refine jv_sub [1, 2, 3, 0] rfl ?_
      exact bk_X10_layPayouts_115 C hr ih _ _ _ _ _ _ h
def fn_X10_layPayouts_97 (N : Nat) (K71 : Mem → Nat → Int32 → Int32 → Int32 → Option (Unit × Mem)) (M : Mem) (a0 : Nat) (x1 : Int32) (x2 : Int32) (x3 : Int32) (s0 : Int32) (s1 : Int32) (s2 : Nat) : Option (Unit × Mem) :=
  (mm_sI M s2 0 s1 s0).bind fun M1 =>
  K71 M1 a0 x1 x2 ((x3 + 1))
set_option maxRecDepth 100000 in
set_option maxHeartbeats 4000000 in
theorem bk_X10_layPayouts_97 {Γ : Gm} {ω : Wd} {k N : Nat} {r : Unit} {M' : Mem} (C : Cx Γ cX10_layPayouts 7 RX10 ω 1 0 0) (hr : Γ.meth.sig.returnType = none) {K71 : Mem → Nat → Int32 → Int32 → Int32 → Option (Unit × Mem)} (hK71 : ∀ (M : Mem) (a0 : Nat) (x1 : Int32) (x2 : Int32) (x3 : Int32), K71 M a0 x1 x2 x3 = some (r, M') → JJ Γ (QF Γ ω k 0 0 none M') 7 ω k M 0 0 71 [(0, .ref a0), (1, .int x1), (2, .int x2), (3, .int x3)] []) (M : Mem) (a0 : Nat) (x1 : Int32) (x2 : Int32) (x3 : Int32) (s0 : Int32) (s1 : Int32) (s2 : Nat) (h : fn_X10_layPayouts_97 N K71 M a0 x1 x2 x3 s0 s1 s2 = some (r, M')) : JJ Γ (QF Γ ω k 0 0 none M') 7 ω k M 0 0 97 [(0, .ref a0), (1, .int x1), (2, .int x2), (3, .int x3)] [.int s0, .int s1, .ref s2] := by
  unfold fn_X10_layPayouts_97 at h
  refine jv_iast C dX10_layPayouts_97 h (fun M1 h => ?_)
  refine jv_iinc (v := 1) (lv' := [(3, .int (x3 + 1)), (0, .ref a0), (1, .int x1), (2, .int x2)]) C dX10_layPayouts_98 3 rfl (by decide) (by decide) rfl ?_
  refine jv_goto (tgt := 71) C dX10_layPayouts_101 (by decide) ?_
  refine jv_sub [1, 2, 3, 0] rfl ?_
  exact hK71 _ _ _ _ _ h
def fn_X10_layPayouts_71 (N : Nat) : Nat → Mem → Nat → Int32 → Int32 → Int32 → Option (Unit × Mem)
  | 0, _, _, _, _, _ => none
  | n + 1, M, a0, x1, x2, x3 =>
    if x1 < x3 then
      fn_X10_layPayouts_108 N N M a0 x1 ((x2 - 1))
    else
      (mm_gR M a0 10 25).bind fun b1 =>
      if x3 = 0 then
        fn_X10_layPayouts_97 N (fn_X10_layPayouts_71 N n) M a0 x1 x2 x3 0 (((5001 * x2) + x3)) b1
      else
        fn_X10_layPayouts_97 N (fn_X10_layPayouts_71 N n) M a0 x1 x2 x3 1000000 (((5001 * x2) + x3)) b1
set_option maxRecDepth 100000 in
set_option maxHeartbeats 4000000 in
theorem bk_X10_layPayouts_71 {Γ : Gm} {ω : Wd} {k N : Nat} {r : Unit} {M' : Mem} (C : Cx Γ cX10_layPayouts 7 RX10 ω 1 0 0) (hr : Γ.meth.sig.returnType = none) : ∀ (n : Nat) (M : Mem) (a0 : Nat) (x1 : Int32) (x2 : Int32) (x3 : Int32), fn_X10_layPayouts_71 N n M a0 x1 x2 x3 = some (r, M') → JJ Γ (QF Γ ω k 0 0 none M') 7 ω k M 0 0 71 [(0, .ref a0), (1, .int x1), (2, .int x2), (3, .int x3)] [] := by
  intro n
  induction n with
  | zero => intro M a0 x1 x2 x3 h; exact jv_no h
  | succ n ih =>
    intro M a0 x1 x2 x3 h
    rw [fn_X10_layPayouts_71.eq_2] at h
    refine jv_iload_n C dX10_layPayouts_71 rfl 3 rfl ?_
    refine jv_iload_n C dX10_layPayouts_72 rfl 1 rfl ?_
    refine jv_icmp_gt (tgt := 104) C dX10_layPayouts_73 (by decide) h (fun h => ?_) (fun h => ?_)
    · refine jv_iload_n C dX10_layPayouts_104 rfl 2 rfl ?_
      refine jv_iconst (v := 1) C dX10_layPayouts_105 (by decide) ?_
      refine jv_isub C dX10_layPayouts_106 ?_
      refine jv_istore_n (lv' := [(3, .int (x2 - 1)), (0, .ref a0), (1, .int x1), (2, .int x2)]) C dX10_layPayouts_107 rfl (by decide) rfl ?_
      refine jv_sub [1, 2, 0] rfl ?_
      exact bk_X10_layPayouts_108 C hr _ _ _ _ _ h
    · refine jv_aload_n C dX10_layPayouts_76 rfl 0 rfl ?_
      refine jv_getR C fa_X10_43 dX10_layPayouts_77 h (fun b1 h => ?_)
      refine jv_sipush (v := 5001) C dX10_layPayouts_80 (by decide) ?_
      refine jv_iload_n C dX10_layPayouts_83 rfl 2 rfl ?_
      refine jv_imul C dX10_layPayouts_84 ?_
      refine jv_iload_n C dX10_layPayouts_85 rfl 3 rfl ?_
      refine jv_iadd C dX10_layPayouts_86 ?_
      refine jv_iload_n C dX10_layPayouts_87 rfl 3 rfl ?_
      refine jv_if_ne (tgt := 95) C dX10_layPayouts_88 (by decide) h (fun h => ?_) (fun h => ?_)
      · refine jv_ldc C gw_1563 dX10_layPayouts_95 ?_
        exact bk_X10_layPayouts_97 C hr ih _ _ _ _ _ _ _ _ h
      · refine jv_iconst (v := 0) C dX10_layPayouts_91 (by decide) ?_
        refine jv_goto (tgt := 97) C dX10_layPayouts_92 (by decide) ?_
        exact bk_X10_layPayouts_97 C hr ih _ _ _ _ _ _ _ _ h
def fn_X10_layPayouts_23 (N : Nat) : Nat → Mem → Nat → Int32 → Int32 → Option (Unit × Mem)
  | 0, _, _, _, _ => none
  | n + 1, M, a0, x1, x2 =>
    (mm_gR M a0 10 10).bind fun b1 =>
    (mm_aI M b1 0 2).bind fun v2 =>
    if v2 ≤ x2 then
      (mm_gR M a0 10 10).bind fun b3 =>
      (mm_aI M b3 0 0).bind fun v4 =>
      fn_X10_layPayouts_71 N N M a0 x1 v4 0
    else
      (mm_gR M a0 10 26).bind fun b5 =>
      (mm_gR M a0 10 13).bind fun b6 =>
      (mm_aI M b6 0 x2).bind fun v7 =>
      (mm_aI M b5 0 v7).bind fun v8 =>
      (mm_gR M a0 10 16).bind fun b9 =>
      (mm_aI M b9 0 (14 + x2)).bind fun v10 =>
      (mm_sI M b5 0 v7 (v8 + v10)).bind fun M11 =>
      fn_X10_layPayouts_23 N n M11 a0 x1 ((x2 + 1))
set_option maxRecDepth 100000 in
set_option maxHeartbeats 4000000 in
theorem bk_X10_layPayouts_23 {Γ : Gm} {ω : Wd} {k N : Nat} {r : Unit} {M' : Mem} (C : Cx Γ cX10_layPayouts 7 RX10 ω 1 0 0) (hr : Γ.meth.sig.returnType = none) : ∀ (n : Nat) (M : Mem) (a0 : Nat) (x1 : Int32) (x2 : Int32), fn_X10_layPayouts_23 N n M a0 x1 x2 = some (r, M') → JJ Γ (QF Γ ω k 0 0 none M') 7 ω k M 0 0 23 [(0, .ref a0), (1, .int x1), (2, .int x2)] [] := by
  intro n
  induction n with
  | zero => intro M a0 x1 x2 h; exact jv_no h
  | succ n ih =>
    intro M a0 x1 x2 h
    rw [fn_X10_layPayouts_23.eq_2] at h
    refine jv_iload_n C dX10_layPayouts_23 rfl 2 rfl ?_
    refine jv_aload_n C dX10_layPayouts_24 rfl 0 rfl ?_
    refine jv_getR C fa_X10_13 dX10_layPayouts_25 h (fun b1 h => ?_)
    refine jv_iconst (v := 2) C dX10_layPayouts_28 (by decide) ?_
    refine jv_iald C dX10_layPayouts_29 h (fun v2 h => ?_)
    refine jv_icmp_ge (tgt := 62) C dX10_layPayouts_30 (by decide) h (fun h => ?_) (fun h => ?_)
    · refine jv_aload_n C dX10_layPayouts_62 rfl 0 rfl ?_
      refine jv_getR C fa_X10_13 dX10_layPayouts_63 h (fun b3 h => ?_)
      refine jv_iconst (v := 0) C dX10_layPayouts_66 (by decide) ?_
      refine jv_iald C dX10_layPayouts_67 h (fun v4 h => ?_)
      refine jv_istore_n (lv' := [(2, .int v4), (0, .ref a0), (1, .int x1)]) C dX10_layPayouts_68 rfl (by decide) rfl ?_
      refine jv_iconst (v := 0) C dX10_layPayouts_69 (by decide) ?_
      refine jv_istore_n (lv' := [(3, .int 0), (2, .int v4), (0, .ref a0), (1, .int x1)]) C dX10_layPayouts_70 rfl (by decide) rfl ?_
      refine jv_sub [2, 3, 1, 0] rfl ?_
      exact bk_X10_layPayouts_71 C hr _ _ _ _ _ _ h
    · refine jv_aload_n C dX10_layPayouts_33 rfl 0 rfl ?_
      refine jv_getR C fa_X10_46 dX10_layPayouts_34 h (fun b5 h => ?_)
      refine jv_aload_n C dX10_layPayouts_37 rfl 0 rfl ?_
      refine jv_getR C fa_X10_23 dX10_layPayouts_38 h (fun b6 h => ?_)
      refine jv_iload_n C dX10_layPayouts_41 rfl 2 rfl ?_
      refine jv_iald C dX10_layPayouts_42 h (fun v7 h => ?_)
      refine jv_dup2 C dX10_layPayouts_43 rfl rfl ?_
      refine jv_iald C dX10_layPayouts_44 h (fun v8 h => ?_)
      refine jv_aload_n C dX10_layPayouts_45 rfl 0 rfl ?_
      refine jv_getR C fa_X10_29 dX10_layPayouts_46 h (fun b9 h => ?_)
      refine jv_bipush (v := 14) C dX10_layPayouts_49 (by decide) ?_
      refine jv_iload_n C dX10_layPayouts_51 rfl 2 rfl ?_
      refine jv_iadd C dX10_layPayouts_52 ?_
      refine jv_iald C dX10_layPayouts_53 h (fun v10 h => ?_)
      refine jv_iadd C dX10_layPayouts_54 ?_
      refine jv_iast C dX10_layPayouts_55 h (fun M11 h => ?_)
      refine jv_iinc (v := 1) (lv' := [(2, .int (x2 + 1)), (0, .ref a0), (1, .int x1)]) C dX10_layPayouts_56 2 rfl (by decide) (by decide) rfl ?_
      refine jv_goto (tgt := 23) C dX10_layPayouts_59 (by decide) ?_
      refine jv_sub [1, 2, 0] rfl ?_
      exact ih _ _ _ _ h
def fn_X10_layPayouts_2 (N : Nat) : Nat → Mem → Nat → Int32 → Int32 → Option (Unit × Mem)
  | 0, _, _, _, _ => none
  | n + 1, M, a0, x1, x2 =>
    if 8 ≤ x2 then
      fn_X10_layPayouts_23 N N M a0 x1 0
    else
      (mm_gR M a0 10 26).bind fun b1 =>
      (mm_sI M b1 0 x2 0).bind fun M2 =>
      fn_X10_layPayouts_2 N n M2 a0 x1 ((x2 + 1))
set_option maxRecDepth 100000 in
set_option maxHeartbeats 4000000 in
theorem bk_X10_layPayouts_2 {Γ : Gm} {ω : Wd} {k N : Nat} {r : Unit} {M' : Mem} (C : Cx Γ cX10_layPayouts 7 RX10 ω 1 0 0) (hr : Γ.meth.sig.returnType = none) : ∀ (n : Nat) (M : Mem) (a0 : Nat) (x1 : Int32) (x2 : Int32), fn_X10_layPayouts_2 N n M a0 x1 x2 = some (r, M') → JJ Γ (QF Γ ω k 0 0 none M') 7 ω k M 0 0 2 [(0, .ref a0), (1, .int x1), (2, .int x2)] [] := by
  intro n
  induction n with
  | zero => intro M a0 x1 x2 h; exact jv_no h
  | succ n ih =>
    intro M a0 x1 x2 h
    rw [fn_X10_layPayouts_2.eq_2] at h
    refine jv_iload_n C dX10_layPayouts_2 rfl 2 rfl ?_
    refine jv_bipush (v := 8) C dX10_layPayouts_3 (by decide) ?_
    refine jv_icmp_ge (tgt := 21) C dX10_layPayouts_5 (by decide) h (fun h => ?_) (fun h => ?_)
    · refine jv_iconst (v := 0) C dX10_layPayouts_21 (by decide) ?_
      refine jv_istore_n (lv' := [(2, .int 0), (0, .ref a0), (1, .int x1)]) C dX10_layPayouts_22 rfl (by decide) rfl ?_
      refine jv_sub [1, 2, 0] rfl ?_
      exact bk_X10_layPayouts_23 C hr _ _ _ _ _ h
    · refine jv_aload_n C dX10_layPayouts_8 rfl 0 rfl ?_
      refine jv_getR C fa_X10_46 dX10_layPayouts_9 h (fun b1 h => ?_)
      refine jv_iload_n C dX10_layPayouts_12 rfl 2 rfl ?_
      refine jv_iconst (v := 0) C dX10_layPayouts_13 (by decide) ?_
      refine jv_iast C dX10_layPayouts_14 h (fun M2 h => ?_)
      refine jv_iinc (v := 1) (lv' := [(2, .int (x2 + 1)), (0, .ref a0), (1, .int x1)]) C dX10_layPayouts_15 2 rfl (by decide) (by decide) rfl ?_
      refine jv_goto (tgt := 2) C dX10_layPayouts_18 (by decide) ?_
      refine jv_sub [1, 2, 0] rfl ?_
      exact ih _ _ _ _ h
def fn_X10_layPayouts (N : Nat) (M : Mem) (a0 : Nat) (x1 : Int32) : Option (Unit × Mem) :=
  fn_X10_layPayouts_2 N N M a0 x1 0
set_option maxRecDepth 100000 in
set_option maxHeartbeats 4000000 in
theorem ct_X10_layPayouts {l : Launch} {ω : Wd} {k N : Nat} {M : Mem} {a0 : Nat} {x1 : Int32} {r : Unit} {M' : Mem} (h : fn_X10_layPayouts N M a0 x1 = some (r, M')) : CM l ω k yX10_layPayouts cX10_layPayouts 7 none 1 0 0 [.ref a0, .int x1] M none M' := by
  refine CM.of (by decide) (Nat.le_of_ble_eq_true rfl) fun Γ hl C hr hi => ?_
  subst hl
  unfold fn_X10_layPayouts at h
  refine jv_iconst (v := 0) C dX10_layPayouts_0 (by decide) ?_
  refine jv_istore_n (lv' := [(2, .int 0), (0, .ref a0), (1, .int x1)]) C dX10_layPayouts_1 rfl (by decide) rfl ?_
  refine jv_sub [1, 2, 0] rfl ?_
  exact bk_X10_layPayouts_2 C hr _ _ _ _ _ h
theorem dX10_pays_0 : decode cX10_pays 0 = .ok (.aload_n 0, 1) := by decide +kernel
theorem dX10_pays_1 : decode cX10_pays 1 = .ok (.iload_n 1, 1) := by decide +kernel
theorem dX10_pays_2 : decode cX10_pays 2 = .ok (.invokevirtual 249, 3) := by decide +kernel
theorem dX10_pays_5 : decode cX10_pays 5 = .ok (.aload_n 0, 1) := by decide +kernel
theorem dX10_pays_6 : decode cX10_pays 6 = .ok (.iconst 0, 1) := by decide +kernel
theorem dX10_pays_7 : decode cX10_pays 7 = .ok (.iload_n 1, 1) := by decide +kernel
theorem dX10_pays_8 : decode cX10_pays 8 = .ok (.invokevirtual 246, 3) := by decide +kernel
theorem dX10_pays_11 : decode cX10_pays 11 = .ok (.ldc 180, 2) := by decide +kernel
theorem dX10_pays_13 : decode cX10_pays 13 = .ok (.if_icmp .lt 5, 3) := by decide +kernel
theorem dX10_pays_16 : decode cX10_pays 16 = .ok (.iconst 0, 1) := by decide +kernel
theorem dX10_pays_17 : decode cX10_pays 17 = .ok (.ireturn, 1) := by decide +kernel
theorem dX10_pays_18 : decode cX10_pays 18 = .ok (.iload_n 1, 1) := by decide +kernel
theorem dX10_pays_19 : decode cX10_pays 19 = .ok (.istore_n 2, 1) := by decide +kernel
theorem dX10_pays_20 : decode cX10_pays 20 = .ok (.iconst 0, 1) := by decide +kernel
theorem dX10_pays_21 : decode cX10_pays 21 = .ok (.istore_n 3, 1) := by decide +kernel
theorem dX10_pays_22 : decode cX10_pays 22 = .ok (.iload_n 3, 1) := by decide +kernel
theorem dX10_pays_23 : decode cX10_pays 23 = .ok (.aload_n 0, 1) := by decide +kernel
theorem dX10_pays_24 : decode cX10_pays 24 = .ok (.getfield 13, 3) := by decide +kernel
theorem dX10_pays_27 : decode cX10_pays 27 = .ok (.iconst 0, 1) := by decide +kernel
theorem dX10_pays_28 : decode cX10_pays 28 = .ok (.iaload, 1) := by decide +kernel
theorem dX10_pays_29 : decode cX10_pays 29 = .ok (.if_icmp .ge 81, 3) := by decide +kernel
theorem dX10_pays_32 : decode cX10_pays 32 = .ok (.aload_n 0, 1) := by decide +kernel
theorem dX10_pays_33 : decode cX10_pays 33 = .ok (.getfield 46, 3) := by decide +kernel
theorem dX10_pays_36 : decode cX10_pays 36 = .ok (.iload_n 3, 1) := by decide +kernel
theorem dX10_pays_37 : decode cX10_pays 37 = .ok (.iaload, 1) := by decide +kernel
theorem dX10_pays_38 : decode cX10_pays 38 = .ok (.iload_n 2, 1) := by decide +kernel
theorem dX10_pays_39 : decode cX10_pays 39 = .ok (.aload_n 0, 1) := by decide +kernel
theorem dX10_pays_40 : decode cX10_pays 40 = .ok (.iload_n 3, 1) := by decide +kernel
theorem dX10_pays_41 : decode cX10_pays 41 = .ok (.invokevirtual 243, 3) := by decide +kernel
theorem dX10_pays_44 : decode cX10_pays 44 = .ok (.idiv, 1) := by decide +kernel
theorem dX10_pays_45 : decode cX10_pays 45 = .ok (.invokestatic 196, 3) := by decide +kernel
theorem dX10_pays_48 : decode cX10_pays 48 = .ok (.istore 4, 2) := by decide +kernel
theorem dX10_pays_50 : decode cX10_pays 50 = .ok (.iload 4, 2) := by decide +kernel
theorem dX10_pays_52 : decode cX10_pays 52 = .ok (.aload_n 0, 1) := by decide +kernel
theorem dX10_pays_53 : decode cX10_pays 53 = .ok (.iload_n 3, 1) := by decide +kernel
theorem dX10_pays_54 : decode cX10_pays 54 = .ok (.iconst 1, 1) := by decide +kernel
theorem dX10_pays_55 : decode cX10_pays 55 = .ok (.iadd, 1) := by decide +kernel
theorem dX10_pays_56 : decode cX10_pays 56 = .ok (.iload_n 2, 1) := by decide +kernel
theorem dX10_pays_57 : decode cX10_pays 57 = .ok (.iload 4, 2) := by decide +kernel
theorem dX10_pays_59 : decode cX10_pays 59 = .ok (.aload_n 0, 1) := by decide +kernel
theorem dX10_pays_60 : decode cX10_pays 60 = .ok (.iload_n 3, 1) := by decide +kernel
theorem dX10_pays_61 : decode cX10_pays 61 = .ok (.invokevirtual 243, 3) := by decide +kernel
theorem dX10_pays_64 : decode cX10_pays 64 = .ok (.imul, 1) := by decide +kernel
theorem dX10_pays_65 : decode cX10_pays 65 = .ok (.isub, 1) := by decide +kernel
theorem dX10_pays_66 : decode cX10_pays 66 = .ok (.invokevirtual 246, 3) := by decide +kernel
theorem dX10_pays_69 : decode cX10_pays 69 = .ok (.iadd, 1) := by decide +kernel
theorem dX10_pays_70 : decode cX10_pays 70 = .ok (.aload_n 0, 1) := by decide +kernel
theorem dX10_pays_71 : decode cX10_pays 71 = .ok (.iload_n 3, 1) := by decide +kernel
theorem dX10_pays_72 : decode cX10_pays 72 = .ok (.iload_n 2, 1) := by decide +kernel
theorem dX10_pays_73 : decode cX10_pays 73 = .ok (.invokevirtual 246, 3) := by decide +kernel
theorem dX10_pays_76 : decode cX10_pays 76 = .ok (.if_icmp .eq 9, 3) := by decide +kernel
theorem dX10_pays_79 : decode cX10_pays 79 = .ok (.iinc 4 (-1), 3) := by decide +kernel
theorem dX10_pays_82 : decode cX10_pays 82 = .ok (.goto (-32), 3) := by decide +kernel
theorem dX10_pays_85 : decode cX10_pays 85 = .ok (.aload_n 0, 1) := by decide +kernel
theorem dX10_pays_86 : decode cX10_pays 86 = .ok (.getfield 49, 3) := by decide +kernel
theorem dX10_pays_89 : decode cX10_pays 89 = .ok (.iload_n 3, 1) := by decide +kernel
theorem dX10_pays_90 : decode cX10_pays 90 = .ok (.iload 4, 2) := by decide +kernel
theorem dX10_pays_92 : decode cX10_pays 92 = .ok (.iastore, 1) := by decide +kernel
theorem dX10_pays_93 : decode cX10_pays 93 = .ok (.iload_n 2, 1) := by decide +kernel
theorem dX10_pays_94 : decode cX10_pays 94 = .ok (.iload 4, 2) := by decide +kernel
theorem dX10_pays_96 : decode cX10_pays 96 = .ok (.aload_n 0, 1) := by decide +kernel
theorem dX10_pays_97 : decode cX10_pays 97 = .ok (.iload_n 3, 1) := by decide +kernel
theorem dX10_pays_98 : decode cX10_pays 98 = .ok (.invokevirtual 243, 3) := by decide +kernel
theorem dX10_pays_101 : decode cX10_pays 101 = .ok (.imul, 1) := by decide +kernel
theorem dX10_pays_102 : decode cX10_pays 102 = .ok (.isub, 1) := by decide +kernel
theorem dX10_pays_103 : decode cX10_pays 103 = .ok (.istore_n 2, 1) := by decide +kernel
theorem dX10_pays_104 : decode cX10_pays 104 = .ok (.iinc 3 1, 3) := by decide +kernel
theorem dX10_pays_107 : decode cX10_pays 107 = .ok (.goto (-85), 3) := by decide +kernel
theorem dX10_pays_110 : decode cX10_pays 110 = .ok (.iconst 1, 1) := by decide +kernel
theorem dX10_pays_111 : decode cX10_pays 111 = .ok (.ireturn, 1) := by decide +kernel
def fn_X10_pays_50 (N : Nat) (K22 : Mem → Nat → Int32 → Int32 → Option (Int32 × Mem)) : Nat → Mem → Nat → Int32 → Int32 → Int32 → Option (Int32 × Mem)
  | 0, _, _, _, _, _ => none
  | n + 1, M, a0, x2, x3, x4 =>
    (mm_ck M a0 10).bind fun _ => mm_b2 (fn_X10_coinValue N M a0 x3) fun v2 M1 =>
    (mm_ck M1 a0 10).bind fun _ => mm_b2 (fn_X10_fewestAt N M1 a0 ((x3 + 1)) ((x2 - (x4 * v2)))) fun v4 M3 =>
    (mm_ck M3 a0 10).bind fun _ => mm_b2 (fn_X10_fewestAt N M3 a0 x3 x2) fun v6 M5 =>
    if (x4 + v4) = v6 then
      (mm_gR M5 a0 10 27).bind fun b7 =>
      (mm_sI M5 b7 0 x3 x4).bind fun M8 =>
      (mm_ck M8 a0 10).bind fun _ => mm_b2 (fn_X10_coinValue N M8 a0 x3) fun v10 M9 =>
      K22 M9 a0 ((x2 - (x4 * v10))) ((x3 + 1))
    else
      fn_X10_pays_50 N K22 n M5 a0 x2 x3 ((x4 + (-1)))
set_option maxRecDepth 100000 in
set_option maxHeartbeats 4000000 in
theorem bk_X10_pays_50 {Γ : Gm} {ω : Wd} {k N : Nat} {r : Int32} {M' : Mem} (C : Cx Γ cX10_pays 5 RX10 ω 2 0 0) (hr : Γ.meth.sig.returnType = (some .boolean)) {K22 : Mem → Nat → Int32 → Int32 → Option (Int32 × Mem)} (hK22 : ∀ (M : Mem) (a0 : Nat) (x2 : Int32) (x3 : Int32), K22 M a0 x2 x3 = some (r, M') → JJ Γ (QF Γ ω k 0 0 (some (.int r)) M') 5 ω k M 0 0 22 [(0, .ref a0), (2, .int x2), (3, .int x3)] []) : ∀ (n : Nat) (M : Mem) (a0 : Nat) (x2 : Int32) (x3 : Int32) (x4 : Int32), fn_X10_pays_50 N K22 n M a0 x2 x3 x4 = some (r, M') → JJ Γ (QF Γ ω k 0 0 (some (.int r)) M') 5 ω k M 0 0 50 [(0, .ref a0), (2, .int x2), (3, .int x3), (4, .int x4)] [] := by
  intro n
  induction n with
  | zero => intro M a0 x2 x3 x4 h; exact jv_no h
  | succ n ih =>
    intro M a0 x2 x3 x4 h
    rw [fn_X10_pays_50.eq_2] at h
    refine jv_iload C dX10_pays_50 3 rfl ?_
    refine jv_aload_n C dX10_pays_52 rfl 0 rfl ?_
    refine jv_iload_n C dX10_pays_53 rfl 2 rfl ?_
    refine jv_iconst (v := 1) C dX10_pays_54 (by decide) ?_
    refine jv_iadd C dX10_pays_55 ?_
    refine jv_iload_n C dX10_pays_56 rfl 1 rfl ?_
    refine jv_iload C dX10_pays_57 3 rfl ?_
    refine jv_aload_n C dX10_pays_59 rfl 0 rfl ?_
    refine jv_iload_n C dX10_pays_60 rfl 2 rfl ?_
    refine jv_vI0 (As := [.int x3]) C lk_X10_243 rfl dX10_pays_61 rfl rfl (by decide) (by decide) (by decide) (Nat.le_of_ble_eq_true rfl) h (fun _ _ h => ct_X10_coinValue h) (fun v2 M1 h => ?_)
    refine jv_imul C dX10_pays_64 ?_
    refine jv_isub C dX10_pays_65 ?_
    refine jv_vI0 (As := [.int (x3 + 1), .int (x2 - (x4 * v2))]) C lk_X10_246 rfl dX10_pays_66 rfl rfl (by decide) (by decide) (by decide) (Nat.le_of_ble_eq_true rfl) h (fun _ _ h => ct_X10_fewestAt h) (fun v4 M3 h => ?_)
    refine jv_iadd C dX10_pays_69 ?_
    refine jv_aload_n C dX10_pays_70 rfl 0 rfl ?_
    refine jv_iload_n C dX10_pays_71 rfl 2 rfl ?_
    refine jv_iload_n C dX10_pays_72 rfl 1 rfl ?_
    refine jv_vI0 (As := [.int x3, .int x2]) C lk_X10_246 rfl dX10_pays_73 rfl rfl (by decide) (by decide) (by decide) (Nat.le_of_ble_eq_true rfl) h (fun _ _ h => ct_X10_fewestAt h) (fun v6 M5 h => ?_)
    refine jv_icmp_eq (tgt := 85) C dX10_pays_76 (by decide) h (fun h => ?_) (fun h => ?_)
    · refine jv_aload_n C dX10_pays_85 rfl 0 rfl ?_
      refine jv_getR C fa_X10_49 dX10_pays_86 h (fun b7 h => ?_)
      refine jv_iload_n C dX10_pays_89 rfl 2 rfl ?_
      refine jv_iload C dX10_pays_90 3 rfl ?_
      refine jv_iast C dX10_pays_92 h (fun M8 h => ?_)
      refine jv_iload_n C dX10_pays_93 rfl 1 rfl ?_
      refine jv_iload C dX10_pays_94 3 rfl ?_
      refine jv_aload_n C dX10_pays_96 rfl 0 rfl ?_
      refine jv_iload_n C dX10_pays_97 rfl 2 rfl ?_
      refine jv_vI0 (As := [.int x3]) C lk_X10_243 rfl dX10_pays_98 rfl rfl (by decide) (by decide) (by decide) (Nat.le_of_ble_eq_true rfl) h (fun _ _ h => ct_X10_coinValue h) (fun v10 M9 h => ?_)
      refine jv_imul C dX10_pays_101 ?_
      refine jv_isub C dX10_pays_102 ?_
      refine jv_istore_n (lv' := [(2, .int (x2 - (x4 * v10))), (0, .ref a0), (3, .int x3), (4, .int x4)]) C dX10_pays_103 rfl (by decide) rfl ?_
      refine jv_iinc (v := 1) (lv' := [(3, .int (x3 + 1)), (2, .int (x2 - (x4 * v10))), (0, .ref a0), (4, .int x4)]) C dX10_pays_104 2 rfl (by decide) (by decide) rfl ?_
      refine jv_goto (tgt := 22) C dX10_pays_107 (by decide) ?_
      refine jv_sub [2, 1, 0] rfl ?_
      exact hK22 _ _ _ _ h
    · refine jv_iinc (v := (-1)) (lv' := [(4, .int (x4 + (-1))), (0, .ref a0), (2, .int x2), (3, .int x3)]) C dX10_pays_79 3 rfl (by decide) (by decide) rfl ?_
      refine jv_goto (tgt := 50) C dX10_pays_82 (by decide) ?_
      refine jv_sub [1, 2, 3, 0] rfl ?_
      exact ih _ _ _ _ _ h
def fn_X10_pays_22 (N : Nat) : Nat → Mem → Nat → Int32 → Int32 → Option (Int32 × Mem)
  | 0, _, _, _, _ => none
  | n + 1, M, a0, x2, x3 =>
    (mm_gR M a0 10 10).bind fun b1 =>
    (mm_aI M b1 0 0).bind fun v2 =>
    if v2 ≤ x3 then
      some (1, M)
    else
      (mm_gR M a0 10 26).bind fun b3 =>
      (mm_aI M b3 0 x3).bind fun v4 =>
      (mm_ck M a0 10).bind fun _ => mm_b2 (fn_X10_coinValue N M a0 x3) fun v6 M5 =>
      (mm_dI x2 v6).bind fun v7 =>
      mm_lt (if v7 < v4 then v7 else v4) fun v8 =>
      fn_X10_pays_50 N (fn_X10_pays_22 N n) N M5 a0 x2 x3 v8
set_option maxRecDepth 100000 in
set_option maxHeartbeats 4000000 in
theorem bk_X10_pays_22 {Γ : Gm} {ω : Wd} {k N : Nat} {r : Int32} {M' : Mem} (C : Cx Γ cX10_pays 5 RX10 ω 2 0 0) (hr : Γ.meth.sig.returnType = (some .boolean)) : ∀ (n : Nat) (M : Mem) (a0 : Nat) (x2 : Int32) (x3 : Int32), fn_X10_pays_22 N n M a0 x2 x3 = some (r, M') → JJ Γ (QF Γ ω k 0 0 (some (.int r)) M') 5 ω k M 0 0 22 [(0, .ref a0), (2, .int x2), (3, .int x3)] [] := by
  intro n
  induction n with
  | zero => intro M a0 x2 x3 h; exact jv_no h
  | succ n ih =>
    intro M a0 x2 x3 h
    rw [fn_X10_pays_22.eq_2] at h
    refine jv_iload_n C dX10_pays_22 rfl 2 rfl ?_
    refine jv_aload_n C dX10_pays_23 rfl 0 rfl ?_
    refine jv_getR C fa_X10_13 dX10_pays_24 h (fun b1 h => ?_)
    refine jv_iconst (v := 0) C dX10_pays_27 (by decide) ?_
    refine jv_iald C dX10_pays_28 h (fun v2 h => ?_)
    refine jv_icmp_ge (tgt := 110) C dX10_pays_29 (by decide) h (fun h => ?_) (fun h => ?_)
    · refine jv_iconst (v := 1) C dX10_pays_110 (by decide) ?_
      exact jv_zretc C hr (Or.inr rfl) dX10_pays_111 h
    · refine jv_aload_n C dX10_pays_32 rfl 0 rfl ?_
      refine jv_getR C fa_X10_46 dX10_pays_33 h (fun b3 h => ?_)
      refine jv_iload_n C dX10_pays_36 rfl 2 rfl ?_
      refine jv_iald C dX10_pays_37 h (fun v4 h => ?_)
      refine jv_iload_n C dX10_pays_38 rfl 1 rfl ?_
      refine jv_aload_n C dX10_pays_39 rfl 0 rfl ?_
      refine jv_iload_n C dX10_pays_40 rfl 2 rfl ?_
      refine jv_vI0 (As := [.int x3]) C lk_X10_243 rfl dX10_pays_41 rfl rfl (by decide) (by decide) (by decide) (Nat.le_of_ble_eq_true rfl) h (fun _ _ h => ct_X10_coinValue h) (fun v6 M5 h => ?_)
      refine jv_idiv C dX10_pays_44 h (fun v7 h => ?_)
      refine jv_mmin C gw_1576 gw_280 gw_98 gw_281 (by decide) (by decide) (Nat.le_of_ble_eq_true rfl) dX10_pays_45 ?_
      refine jv_nameI h (fun v8 h => ?_)
      refine jv_istore (lv' := [(4, .int v8), (0, .ref a0), (2, .int x2), (3, .int x3)]) C dX10_pays_48 (by decide) rfl ?_
      refine jv_sub [1, 2, 3, 0] rfl ?_
      exact bk_X10_pays_50 C hr ih _ _ _ _ _ _ h
def fn_X10_pays (N : Nat) (M : Mem) (a0 : Nat) (x1 : Int32) : Option (Int32 × Mem) :=
  (mm_ck M a0 10).bind fun _ => mm_b2 (fn_X10_layPayouts N M a0 x1) fun _ M1 =>
  (mm_ck M1 a0 10).bind fun _ => mm_b2 (fn_X10_fewestAt N M1 a0 0 x1) fun v3 M2 =>
  if v3 < 1000000 then
    fn_X10_pays_22 N N M2 a0 x1 0
  else
    some (0, M2)
set_option maxRecDepth 100000 in
set_option maxHeartbeats 4000000 in
theorem ct_X10_pays {l : Launch} {ω : Wd} {k N : Nat} {M : Mem} {a0 : Nat} {x1 : Int32} {r : Int32} {M' : Mem} (h : fn_X10_pays N M a0 x1 = some (r, M')) : CM l ω k yX10_pays cX10_pays 5 (some .boolean) 2 0 0 [.ref a0, .int x1] M (some (.int r)) M' := by
  refine CM.of (by decide) (Nat.le_of_ble_eq_true rfl) fun Γ hl C hr hi => ?_
  subst hl
  unfold fn_X10_pays at h
  refine jv_aload_n C dX10_pays_0 rfl 0 rfl ?_
  refine jv_iload_n C dX10_pays_1 rfl 1 rfl ?_
  refine jv_vV0 (As := [.int x1]) C lk_X10_249 rfl dX10_pays_2 rfl rfl (by decide) (by decide) (by decide) (Nat.le_of_ble_eq_true rfl) h (fun _ _ h => ct_X10_layPayouts h) (fun _ M1 h => ?_)
  refine jv_aload_n C dX10_pays_5 rfl 0 rfl ?_
  refine jv_iconst (v := 0) C dX10_pays_6 (by decide) ?_
  refine jv_iload_n C dX10_pays_7 rfl 1 rfl ?_
  refine jv_vI0 (As := [.int 0, .int x1]) C lk_X10_246 rfl dX10_pays_8 rfl rfl (by decide) (by decide) (by decide) (Nat.le_of_ble_eq_true rfl) h (fun _ _ h => ct_X10_fewestAt h) (fun v3 M2 h => ?_)
  refine jv_ldc C gw_1563 dX10_pays_11 ?_
  refine jv_icmp_lt (tgt := 18) C dX10_pays_13 (by decide) h (fun h => ?_) (fun h => ?_)
  · refine jv_iload_n C dX10_pays_18 rfl 1 rfl ?_
    refine jv_istore_n (lv' := [(2, .int x1), (0, .ref a0), (1, .int x1)]) C dX10_pays_19 rfl (by decide) rfl ?_
    refine jv_iconst (v := 0) C dX10_pays_20 (by decide) ?_
    refine jv_istore_n (lv' := [(3, .int 0), (2, .int x1), (0, .ref a0), (1, .int x1)]) C dX10_pays_21 rfl (by decide) rfl ?_
    refine jv_sub [2, 1, 0] rfl ?_
    exact bk_X10_pays_22 C hr _ _ _ _ _ h
  · refine jv_iconst (v := 0) C dX10_pays_16 (by decide) ?_
    exact jv_zretc C hr (Or.inl rfl) dX10_pays_17 h
theorem dX10_dispense_0 : decode cX10_dispense 0 = .ok (.aload_n 0, 1) := by decide +kernel
theorem dX10_dispense_1 : decode cX10_dispense 1 = .ok (.iconst 0, 1) := by decide +kernel
theorem dX10_dispense_2 : decode cX10_dispense 2 = .ok (.putfield 58, 3) := by decide +kernel
theorem dX10_dispense_5 : decode cX10_dispense 5 = .ok (.iload_n 1, 1) := by decide +kernel
theorem dX10_dispense_6 : decode cX10_dispense 6 = .ok (.invokestatic 254, 3) := by decide +kernel
theorem dX10_dispense_9 : decode cX10_dispense 9 = .ok (.ifCond .ne 5, 3) := by decide +kernel
theorem dX10_dispense_12 : decode cX10_dispense 12 = .ok (.iconst (-1), 1) := by decide +kernel
theorem dX10_dispense_13 : decode cX10_dispense 13 = .ok (.ireturn, 1) := by decide +kernel
theorem dX10_dispense_14 : decode cX10_dispense 14 = .ok (.aload_n 0, 1) := by decide +kernel
theorem dX10_dispense_15 : decode cX10_dispense 15 = .ok (.iload_n 1, 1) := by decide +kernel
theorem dX10_dispense_16 : decode cX10_dispense 16 = .ok (.invokevirtual 257, 3) := by decide +kernel
theorem dX10_dispense_19 : decode cX10_dispense 19 = .ok (.ifCond .ne 6, 3) := by decide +kernel
theorem dX10_dispense_22 : decode cX10_dispense 22 = .ok (.bipush (-2), 2) := by decide +kernel
theorem dX10_dispense_24 : decode cX10_dispense 24 = .ok (.ireturn, 1) := by decide +kernel
theorem dX10_dispense_25 : decode cX10_dispense 25 = .ok (.aload_n 0, 1) := by decide +kernel
theorem dX10_dispense_26 : decode cX10_dispense 26 = .ok (.invokevirtual 271, 3) := by decide +kernel
theorem dX10_dispense_29 : decode cX10_dispense 29 = .ok (.iconst 0, 1) := by decide +kernel
theorem dX10_dispense_30 : decode cX10_dispense 30 = .ok (.istore_n 2, 1) := by decide +kernel
theorem dX10_dispense_31 : decode cX10_dispense 31 = .ok (.iconst 0, 1) := by decide +kernel
theorem dX10_dispense_32 : decode cX10_dispense 32 = .ok (.istore_n 3, 1) := by decide +kernel
theorem dX10_dispense_33 : decode cX10_dispense 33 = .ok (.iload_n 3, 1) := by decide +kernel
theorem dX10_dispense_34 : decode cX10_dispense 34 = .ok (.aload_n 0, 1) := by decide +kernel
theorem dX10_dispense_35 : decode cX10_dispense 35 = .ok (.getfield 13, 3) := by decide +kernel
theorem dX10_dispense_38 : decode cX10_dispense 38 = .ok (.iconst 0, 1) := by decide +kernel
theorem dX10_dispense_39 : decode cX10_dispense 39 = .ok (.iaload, 1) := by decide +kernel
theorem dX10_dispense_40 : decode cX10_dispense 40 = .ok (.if_icmp .ge 99, 3) := by decide +kernel
theorem dX10_dispense_43 : decode cX10_dispense 43 = .ok (.iload_n 2, 1) := by decide +kernel
theorem dX10_dispense_44 : decode cX10_dispense 44 = .ok (.aload_n 0, 1) := by decide +kernel
theorem dX10_dispense_45 : decode cX10_dispense 45 = .ok (.getfield 49, 3) := by decide +kernel
theorem dX10_dispense_48 : decode cX10_dispense 48 = .ok (.iload_n 3, 1) := by decide +kernel
theorem dX10_dispense_49 : decode cX10_dispense 49 = .ok (.iaload, 1) := by decide +kernel
theorem dX10_dispense_50 : decode cX10_dispense 50 = .ok (.iadd, 1) := by decide +kernel
theorem dX10_dispense_51 : decode cX10_dispense 51 = .ok (.istore_n 2, 1) := by decide +kernel
theorem dX10_dispense_52 : decode cX10_dispense 52 = .ok (.aload_n 0, 1) := by decide +kernel
theorem dX10_dispense_53 : decode cX10_dispense 53 = .ok (.getfield 49, 3) := by decide +kernel
theorem dX10_dispense_56 : decode cX10_dispense 56 = .ok (.iload_n 3, 1) := by decide +kernel
theorem dX10_dispense_57 : decode cX10_dispense 57 = .ok (.iaload, 1) := by decide +kernel
theorem dX10_dispense_58 : decode cX10_dispense 58 = .ok (.istore 4, 2) := by decide +kernel
theorem dX10_dispense_60 : decode cX10_dispense 60 = .ok (.iconst 0, 1) := by decide +kernel
theorem dX10_dispense_61 : decode cX10_dispense 61 = .ok (.istore 5, 2) := by decide +kernel
theorem dX10_dispense_63 : decode cX10_dispense 63 = .ok (.iload 5, 2) := by decide +kernel
theorem dX10_dispense_65 : decode cX10_dispense 65 = .ok (.aload_n 0, 1) := by decide +kernel
theorem dX10_dispense_66 : decode cX10_dispense 66 = .ok (.getfield 13, 3) := by decide +kernel
theorem dX10_dispense_69 : decode cX10_dispense 69 = .ok (.iconst 2, 1) := by decide +kernel
theorem dX10_dispense_70 : decode cX10_dispense 70 = .ok (.iaload, 1) := by decide +kernel
theorem dX10_dispense_71 : decode cX10_dispense 71 = .ok (.if_icmp .ge 62, 3) := by decide +kernel
theorem dX10_dispense_74 : decode cX10_dispense 74 = .ok (.aload_n 0, 1) := by decide +kernel
theorem dX10_dispense_75 : decode cX10_dispense 75 = .ok (.getfield 23, 3) := by decide +kernel
theorem dX10_dispense_78 : decode cX10_dispense 78 = .ok (.iload 5, 2) := by decide +kernel
theorem dX10_dispense_80 : decode cX10_dispense 80 = .ok (.iaload, 1) := by decide +kernel
theorem dX10_dispense_81 : decode cX10_dispense 81 = .ok (.iload_n 3, 1) := by decide +kernel
theorem dX10_dispense_82 : decode cX10_dispense 82 = .ok (.if_icmp .eq 6, 3) := by decide +kernel
theorem dX10_dispense_85 : decode cX10_dispense 85 = .ok (.goto 42, 3) := by decide +kernel
theorem dX10_dispense_88 : decode cX10_dispense 88 = .ok (.iload 4, 2) := by decide +kernel
theorem dX10_dispense_90 : decode cX10_dispense 90 = .ok (.aload_n 0, 1) := by decide +kernel
theorem dX10_dispense_91 : decode cX10_dispense 91 = .ok (.getfield 29, 3) := by decide +kernel
theorem dX10_dispense_94 : decode cX10_dispense 94 = .ok (.bipush 14, 2) := by decide +kernel
theorem dX10_dispense_96 : decode cX10_dispense 96 = .ok (.iload 5, 2) := by decide +kernel
theorem dX10_dispense_98 : decode cX10_dispense 98 = .ok (.iadd, 1) := by decide +kernel
theorem dX10_dispense_99 : decode cX10_dispense 99 = .ok (.iaload, 1) := by decide +kernel
theorem dX10_dispense_100 : decode cX10_dispense 100 = .ok (.invokestatic 196, 3) := by decide +kernel
theorem dX10_dispense_103 : decode cX10_dispense 103 = .ok (.istore 6, 2) := by decide +kernel
theorem dX10_dispense_105 : decode cX10_dispense 105 = .ok (.aload_n 0, 1) := by decide +kernel
theorem dX10_dispense_106 : decode cX10_dispense 106 = .ok (.getfield 29, 3) := by decide +kernel
theorem dX10_dispense_109 : decode cX10_dispense 109 = .ok (.bipush 14, 2) := by decide +kernel
theorem dX10_dispense_111 : decode cX10_dispense 111 = .ok (.iload 5, 2) := by decide +kernel
theorem dX10_dispense_113 : decode cX10_dispense 113 = .ok (.iadd, 1) := by decide +kernel
theorem dX10_dispense_114 : decode cX10_dispense 114 = .ok (.dup2, 1) := by decide +kernel
theorem dX10_dispense_115 : decode cX10_dispense 115 = .ok (.iaload, 1) := by decide +kernel
theorem dX10_dispense_116 : decode cX10_dispense 116 = .ok (.iload 6, 2) := by decide +kernel
theorem dX10_dispense_118 : decode cX10_dispense 118 = .ok (.isub, 1) := by decide +kernel
theorem dX10_dispense_119 : decode cX10_dispense 119 = .ok (.iastore, 1) := by decide +kernel
theorem dX10_dispense_120 : decode cX10_dispense 120 = .ok (.iload 4, 2) := by decide +kernel
theorem dX10_dispense_122 : decode cX10_dispense 122 = .ok (.iload 6, 2) := by decide +kernel
theorem dX10_dispense_124 : decode cX10_dispense 124 = .ok (.isub, 1) := by decide +kernel
theorem dX10_dispense_125 : decode cX10_dispense 125 = .ok (.istore 4, 2) := by decide +kernel
theorem dX10_dispense_127 : decode cX10_dispense 127 = .ok (.iinc 5 1, 3) := by decide +kernel
theorem dX10_dispense_130 : decode cX10_dispense 130 = .ok (.goto (-67), 3) := by decide +kernel
theorem dX10_dispense_133 : decode cX10_dispense 133 = .ok (.iinc 3 1, 3) := by decide +kernel
theorem dX10_dispense_136 : decode cX10_dispense 136 = .ok (.goto (-103), 3) := by decide +kernel
theorem dX10_dispense_139 : decode cX10_dispense 139 = .ok (.iload_n 2, 1) := by decide +kernel
theorem dX10_dispense_140 : decode cX10_dispense 140 = .ok (.ireturn, 1) := by decide +kernel
def fn_X10_dispense_127 (N : Nat) (K33 : Mem → Nat → Int32 → Int32 → Option (Int32 × Mem)) (K63 : Mem → Nat → Int32 → Int32 → Int32 → Int32 → Option (Int32 × Mem)) (M : Mem) (a0 : Nat) (x2 : Int32) (x3 : Int32) (x4 : Int32) (x5 : Int32) : Option (Int32 × Mem) :=
  K63 M a0 x2 x3 x4 ((x5 + 1))
set_option maxRecDepth 100000 in
set_option maxHeartbeats 4000000 in
theorem bk_X10_dispense_127 {Γ : Gm} {ω : Wd} {k N : Nat} {r : Int32} {M' : Mem} (C : Cx Γ cX10_dispense 7 RX10 ω 3 0 0) (hr : Γ.meth.sig.returnType = (some .int)) {K33 : Mem → Nat → Int32 → Int32 → Option (Int32 × Mem)} (hK33 : ∀ (M : Mem) (a0 : Nat) (x2 : Int32) (x3 : Int32), K33 M a0 x2 x3 = some (r, M') → JJ Γ (QF Γ ω k 0 0 (some (.int r)) M') 7 ω k M 0 0 33 [(0, .ref a0), (2, .int x2), (3, .int x3)] []) {K63 : Mem → Nat → Int32 → Int32 → Int32 → Int32 → Option (Int32 × Mem)} (hK63 : ∀ (M : Mem) (a0 : Nat) (x2 : Int32) (x3 : Int32) (x4 : Int32) (x5 : Int32), K63 M a0 x2 x3 x4 x5 = some (r, M') → JJ Γ (QF Γ ω k 0 0 (some (.int r)) M') 7 ω k M 0 0 63 [(0, .ref a0), (2, .int x2), (3, .int x3), (4, .int x4), (5, .int x5)] []) (M : Mem) (a0 : Nat) (x2 : Int32) (x3 : Int32) (x4 : Int32) (x5 : Int32) (h : fn_X10_dispense_127 N K33 K63 M a0 x2 x3 x4 x5 = some (r, M')) : JJ Γ (QF Γ ω k 0 0 (some (.int r)) M') 7 ω k M 0 0 127 [(0, .ref a0), (2, .int x2), (3, .int x3), (4, .int x4), (5, .int x5)] [] := by
  unfold fn_X10_dispense_127 at h
  refine jv_iinc (v := 1) (lv' := [(5, .int (x5 + 1)), (0, .ref a0), (2, .int x2), (3, .int x3), (4, .int x4)]) C dX10_dispense_127 4 rfl (by decide) (by decide) rfl ?_
  refine jv_goto (tgt := 63) C dX10_dispense_130 (by decide) ?_
  refine jv_sub [1, 2, 3, 4, 0] rfl ?_
  exact hK63 _ _ _ _ _ _ h
def fn_X10_dispense_63 (N : Nat) (K33 : Mem → Nat → Int32 → Int32 → Option (Int32 × Mem)) : Nat → Mem → Nat → Int32 → Int32 → Int32 → Int32 → Option (Int32 × Mem)
  | 0, _, _, _, _, _, _ => none
  | n + 1, M, a0, x2, x3, x4, x5 =>
    (mm_gR M a0 10 10).bind fun b1 =>
    (mm_aI M b1 0 2).bind fun v2 =>
    if v2 ≤ x5 then
      K33 M a0 x2 ((x3 + 1))
    else
      (mm_gR M a0 10 13).bind fun b3 =>
      (mm_aI M b3 0 x5).bind fun v4 =>
      if v4 = x3 then
        (mm_gR M a0 10 16).bind fun b5 =>
        (mm_aI M b5 0 (14 + x5)).bind fun v6 =>
        mm_lt (if v6 < x4 then v6 else x4) fun v7 =>
        (mm_gR M a0 10 16).bind fun b8 =>
        (mm_aI M b8 0 (14 + x5)).bind fun v9 =>
        (mm_sI M b8 0 (14 + x5) (v9 - v7)).bind fun M10 =>
        fn_X10_dispense_127 N K33 (fn_X10_dispense_63 N K33 n) M10 a0 x2 x3 ((x4 - v7)) x5
      else
        fn_X10_dispense_127 N K33 (fn_X10_dispense_63 N K33 n) M a0 x2 x3 x4 x5
set_option maxRecDepth 100000 in
set_option maxHeartbeats 4000000 in
theorem bk_X10_dispense_63 {Γ : Gm} {ω : Wd} {k N : Nat} {r : Int32} {M' : Mem} (C : Cx Γ cX10_dispense 7 RX10 ω 3 0 0) (hr : Γ.meth.sig.returnType = (some .int)) {K33 : Mem → Nat → Int32 → Int32 → Option (Int32 × Mem)} (hK33 : ∀ (M : Mem) (a0 : Nat) (x2 : Int32) (x3 : Int32), K33 M a0 x2 x3 = some (r, M') → JJ Γ (QF Γ ω k 0 0 (some (.int r)) M') 7 ω k M 0 0 33 [(0, .ref a0), (2, .int x2), (3, .int x3)] []) : ∀ (n : Nat) (M : Mem) (a0 : Nat) (x2 : Int32) (x3 : Int32) (x4 : Int32) (x5 : Int32), fn_X10_dispense_63 N K33 n M a0 x2 x3 x4 x5 = some (r, M') → JJ Γ (QF Γ ω k 0 0 (some (.int r)) M') 7 ω k M 0 0 63 [(0, .ref a0), (2, .int x2), (3, .int x3), (4, .int x4), (5, .int x5)] [] := by
  intro n
  induction n with
  | zero => intro M a0 x2 x3 x4 x5 h; exact jv_no h
  | succ n ih =>
    intro M a0 x2 x3 x4 x5 h
    rw [fn_X10_dispense_63.eq_2] at h
    refine jv_iload C dX10_dispense_63 4 rfl ?_
    refine jv_aload_n C dX10_dispense_65 rfl 0 rfl ?_
    refine jv_getR C fa_X10_13 dX10_dispense_66 h (fun b1 h => ?_)
    refine jv_iconst (v := 2) C dX10_dispense_69 (by decide) ?_
    refine jv_iald C dX10_dispense_70 h (fun v2 h => ?_)
    refine jv_icmp_ge (tgt := 133) C dX10_dispense_71 (by decide) h (fun h => ?_) (fun h => ?_)
    · refine jv_iinc (v := 1) (lv' := [(3, .int (x3 + 1)), (0, .ref a0), (2, .int x2), (4, .int x4), (5, .int x5)]) C dX10_dispense_133 2 rfl (by decide) (by decide) rfl ?_
      refine jv_goto (tgt := 33) C dX10_dispense_136 (by decide) ?_
      refine jv_sub [1, 2, 0] rfl ?_
      exact hK33 _ _ _ _ h
    · refine jv_aload_n C dX10_dispense_74 rfl 0 rfl ?_
      refine jv_getR C fa_X10_23 dX10_dispense_75 h (fun b3 h => ?_)
      refine jv_iload C dX10_dispense_78 4 rfl ?_
      refine jv_iald C dX10_dispense_80 h (fun v4 h => ?_)
      refine jv_iload_n C dX10_dispense_81 rfl 2 rfl ?_
      refine jv_icmp_eq (tgt := 88) C dX10_dispense_82 (by decide) h (fun h => ?_) (fun h => ?_)
      · refine jv_iload C dX10_dispense_88 3 rfl ?_
        refine jv_aload_n C dX10_dispense_90 rfl 0 rfl ?_
        refine jv_getR C fa_X10_29 dX10_dispense_91 h (fun b5 h => ?_)
        refine jv_bipush (v := 14) C dX10_dispense_94 (by decide) ?_
        refine jv_iload C dX10_dispense_96 4 rfl ?_
        refine jv_iadd C dX10_dispense_98 ?_
        refine jv_iald C dX10_dispense_99 h (fun v6 h => ?_)
        refine jv_mmin C gw_1576 gw_280 gw_98 gw_281 (by decide) (by decide) (Nat.le_of_ble_eq_true rfl) dX10_dispense_100 ?_
        refine jv_nameI h (fun v7 h => ?_)
        refine jv_istore (lv' := [(6, .int v7), (0, .ref a0), (2, .int x2), (3, .int x3), (4, .int x4), (5, .int x5)]) C dX10_dispense_103 (by decide) rfl ?_
        refine jv_aload_n C dX10_dispense_105 rfl 1 rfl ?_
        refine jv_getR C fa_X10_29 dX10_dispense_106 h (fun b8 h => ?_)
        refine jv_bipush (v := 14) C dX10_dispense_109 (by decide) ?_
        refine jv_iload C dX10_dispense_111 5 rfl ?_
        refine jv_iadd C dX10_dispense_113 ?_
        refine jv_dup2 C dX10_dispense_114 rfl rfl ?_
        refine jv_iald C dX10_dispense_115 h (fun v9 h => ?_)
        refine jv_iload C dX10_dispense_116 0 rfl ?_
        refine jv_isub C dX10_dispense_118 ?_
        refine jv_iast C dX10_dispense_119 h (fun M10 h => ?_)
        refine jv_iload C dX10_dispense_120 4 rfl ?_
        refine jv_iload C dX10_dispense_122 0 rfl ?_
        refine jv_isub C dX10_dispense_124 ?_
        refine jv_istore (lv' := [(4, .int (x4 - v7)), (6, .int v7), (0, .ref a0), (2, .int x2), (3, .int x3), (5, .int x5)]) C dX10_dispense_125 (by decide) rfl ?_
        refine jv_sub [2, 3, 4, 0, 5] rfl ?_
        exact bk_X10_dispense_127 C hr hK33 ih _ _ _ _ _ _ h
      · refine jv_goto (tgt := 127) C dX10_dispense_85 (by decide) ?_
        exact bk_X10_dispense_127 C hr hK33 ih _ _ _ _ _ _ h
def fn_X10_dispense_33 (N : Nat) : Nat → Mem → Nat → Int32 → Int32 → Option (Int32 × Mem)
  | 0, _, _, _, _ => none
  | n + 1, M, a0, x2, x3 =>
    (mm_gR M a0 10 10).bind fun b1 =>
    (mm_aI M b1 0 0).bind fun v2 =>
    if v2 ≤ x3 then
      some (x2, M)
    else
      (mm_gR M a0 10 27).bind fun b3 =>
      (mm_aI M b3 0 x3).bind fun v4 =>
      (mm_gR M a0 10 27).bind fun b5 =>
      (mm_aI M b5 0 x3).bind fun v6 =>
      fn_X10_dispense_63 N (fn_X10_dispense_33 N n) N M a0 ((x2 + v4)) x3 v6 0
set_option maxRecDepth 100000 in
set_option maxHeartbeats 4000000 in
theorem bk_X10_dispense_33 {Γ : Gm} {ω : Wd} {k N : Nat} {r : Int32} {M' : Mem} (C : Cx Γ cX10_dispense 7 RX10 ω 3 0 0) (hr : Γ.meth.sig.returnType = (some .int)) : ∀ (n : Nat) (M : Mem) (a0 : Nat) (x2 : Int32) (x3 : Int32), fn_X10_dispense_33 N n M a0 x2 x3 = some (r, M') → JJ Γ (QF Γ ω k 0 0 (some (.int r)) M') 7 ω k M 0 0 33 [(0, .ref a0), (2, .int x2), (3, .int x3)] [] := by
  intro n
  induction n with
  | zero => intro M a0 x2 x3 h; exact jv_no h
  | succ n ih =>
    intro M a0 x2 x3 h
    rw [fn_X10_dispense_33.eq_2] at h
    refine jv_iload_n C dX10_dispense_33 rfl 2 rfl ?_
    refine jv_aload_n C dX10_dispense_34 rfl 0 rfl ?_
    refine jv_getR C fa_X10_13 dX10_dispense_35 h (fun b1 h => ?_)
    refine jv_iconst (v := 0) C dX10_dispense_38 (by decide) ?_
    refine jv_iald C dX10_dispense_39 h (fun v2 h => ?_)
    refine jv_icmp_ge (tgt := 139) C dX10_dispense_40 (by decide) h (fun h => ?_) (fun h => ?_)
    · refine jv_iload_n C dX10_dispense_139 rfl 1 rfl ?_
      exact jv_iret C hr dX10_dispense_140 h
    · refine jv_iload_n C dX10_dispense_43 rfl 1 rfl ?_
      refine jv_aload_n C dX10_dispense_44 rfl 0 rfl ?_
      refine jv_getR C fa_X10_49 dX10_dispense_45 h (fun b3 h => ?_)
      refine jv_iload_n C dX10_dispense_48 rfl 2 rfl ?_
      refine jv_iald C dX10_dispense_49 h (fun v4 h => ?_)
      refine jv_iadd C dX10_dispense_50 ?_
      refine jv_istore_n (lv' := [(2, .int (x2 + v4)), (0, .ref a0), (3, .int x3)]) C dX10_dispense_51 rfl (by decide) rfl ?_
      refine jv_aload_n C dX10_dispense_52 rfl 1 rfl ?_
      refine jv_getR C fa_X10_49 dX10_dispense_53 h (fun b5 h => ?_)
      refine jv_iload_n C dX10_dispense_56 rfl 2 rfl ?_
      refine jv_iald C dX10_dispense_57 h (fun v6 h => ?_)
      refine jv_istore (lv' := [(4, .int v6), (2, .int (x2 + v4)), (0, .ref a0), (3, .int x3)]) C dX10_dispense_58 (by decide) rfl ?_
      refine jv_iconst (v := 0) C dX10_dispense_60 (by decide) ?_
      refine jv_istore (lv' := [(5, .int 0), (4, .int v6), (2, .int (x2 + v4)), (0, .ref a0), (3, .int x3)]) C dX10_dispense_61 (by decide) rfl ?_
      refine jv_sub [3, 2, 4, 1, 0] rfl ?_
      exact bk_X10_dispense_63 C hr ih _ _ _ _ _ _ _ h
def fn_X10_dispense (N : Nat) (M : Mem) (a0 : Nat) (x1 : Int32) : Option (Int32 × Mem) :=
  (mm_pV M a0 10 0 (.int 0)).bind fun M1 =>
  mm_b2 (fn_X10_isAmount N M1 x1) fun v3 M2 =>
  if v3 = 0 then
    some ((-1), M2)
  else
    (mm_ck M2 a0 10).bind fun _ => mm_b2 (fn_X10_pays N M2 a0 x1) fun v5 M4 =>
    if v5 = 0 then
      some ((-2), M4)
    else
      (mm_ck M4 a0 10).bind fun _ => mm_b2 (fn_X10_keep N M4 a0) fun _ M6 =>
      fn_X10_dispense_33 N N M6 a0 0 0
set_option maxRecDepth 100000 in
set_option maxHeartbeats 4000000 in
theorem ct_X10_dispense {l : Launch} {ω : Wd} {k N : Nat} {M : Mem} {a0 : Nat} {x1 : Int32} {r : Int32} {M' : Mem} (h : fn_X10_dispense N M a0 x1 = some (r, M')) : CM l ω k yX10_dispense cX10_dispense 7 (some .int) 3 0 0 [.ref a0, .int x1] M (some (.int r)) M' := by
  refine CM.of (by decide) (Nat.le_of_ble_eq_true rfl) fun Γ hl C hr hi => ?_
  subst hl
  unfold fn_X10_dispense at h
  refine jv_aload_n C dX10_dispense_0 rfl 0 rfl ?_
  refine jv_iconst (v := 0) C dX10_dispense_1 (by decide) ?_
  refine jv_putI C fp_X10_58 dX10_dispense_2 h (fun M1 h => ?_)
  refine jv_iload_n C dX10_dispense_5 rfl 1 rfl ?_
  refine jv_sI0 (As := [.int x1]) C lk_X10_254 dX10_dispense_6 rfl rfl (by decide) (by decide) (by decide) (Nat.le_of_ble_eq_true rfl) h (fun _ _ h => ct_X10_isAmount h) (fun v3 M2 h => ?_)
  refine jv_if_ne (tgt := 14) C dX10_dispense_9 (by decide) h (fun h => ?_) (fun h => ?_)
  · refine jv_aload_n C dX10_dispense_14 rfl 0 rfl ?_
    refine jv_iload_n C dX10_dispense_15 rfl 1 rfl ?_
    refine jv_vI0 (As := [.int x1]) C lk_X10_257 rfl dX10_dispense_16 rfl rfl (by decide) (by decide) (by decide) (Nat.le_of_ble_eq_true rfl) h (fun _ _ h => ct_X10_pays h) (fun v5 M4 h => ?_)
    refine jv_if_ne (tgt := 25) C dX10_dispense_19 (by decide) h (fun h => ?_) (fun h => ?_)
    · refine jv_aload_n C dX10_dispense_25 rfl 0 rfl ?_
      refine jv_vV0 (As := []) C lk_X10_271 rfl dX10_dispense_26 rfl rfl (by decide) (by decide) (by decide) (Nat.le_of_ble_eq_true rfl) h (fun _ _ h => ct_X10_keep h) (fun _ M6 h => ?_)
      refine jv_iconst (v := 0) C dX10_dispense_29 (by decide) ?_
      refine jv_istore_n (lv' := [(2, .int 0), (0, .ref a0), (1, .int x1)]) C dX10_dispense_30 rfl (by decide) rfl ?_
      refine jv_iconst (v := 0) C dX10_dispense_31 (by decide) ?_
      refine jv_istore_n (lv' := [(3, .int 0), (2, .int 0), (0, .ref a0), (1, .int x1)]) C dX10_dispense_32 rfl (by decide) rfl ?_
      refine jv_sub [2, 1, 0] rfl ?_
      exact bk_X10_dispense_33 C hr _ _ _ _ _ h
    · refine jv_bipush (v := (-2)) C dX10_dispense_22 (by decide) ?_
      exact jv_iret C hr dX10_dispense_24 h
  · refine jv_iconst (v := (-1)) C dX10_dispense_12 (by decide) ?_
    exact jv_iret C hr dX10_dispense_13 h
theorem dX10_movable_0 : decode cX10_movable 0 = .ok (.iconst 0, 1) := by decide +kernel
theorem dX10_movable_1 : decode cX10_movable 1 = .ok (.istore_n 1, 1) := by decide +kernel
theorem dX10_movable_2 : decode cX10_movable 2 = .ok (.iload_n 1, 1) := by decide +kernel
theorem dX10_movable_3 : decode cX10_movable 3 = .ok (.aload_n 0, 1) := by decide +kernel
theorem dX10_movable_4 : decode cX10_movable 4 = .ok (.getfield 29, 3) := by decide +kernel
theorem dX10_movable_7 : decode cX10_movable 7 = .ok (.iconst 4, 1) := by decide +kernel
theorem dX10_movable_8 : decode cX10_movable 8 = .ok (.iaload, 1) := by decide +kernel
theorem dX10_movable_9 : decode cX10_movable 9 = .ok (.if_icmp .ge 27, 3) := by decide +kernel
theorem dX10_movable_12 : decode cX10_movable 12 = .ok (.aload_n 0, 1) := by decide +kernel
theorem dX10_movable_13 : decode cX10_movable 13 = .ok (.aload_n 0, 1) := by decide +kernel
theorem dX10_movable_14 : decode cX10_movable 14 = .ok (.getfield 29, 3) := by decide +kernel
theorem dX10_movable_17 : decode cX10_movable 17 = .ok (.bipush 22, 2) := by decide +kernel
theorem dX10_movable_19 : decode cX10_movable 19 = .ok (.iload_n 1, 1) := by decide +kernel
theorem dX10_movable_20 : decode cX10_movable 20 = .ok (.iadd, 1) := by decide +kernel
theorem dX10_movable_21 : decode cX10_movable 21 = .ok (.iaload, 1) := by decide +kernel
theorem dX10_movable_22 : decode cX10_movable 22 = .ok (.invokevirtual 218, 3) := by decide +kernel
theorem dX10_movable_25 : decode cX10_movable 25 = .ok (.ifCond .lt 5, 3) := by decide +kernel
theorem dX10_movable_28 : decode cX10_movable 28 = .ok (.iload_n 1, 1) := by decide +kernel
theorem dX10_movable_29 : decode cX10_movable 29 = .ok (.ireturn, 1) := by decide +kernel
theorem dX10_movable_30 : decode cX10_movable 30 = .ok (.iinc 1 1, 3) := by decide +kernel
theorem dX10_movable_33 : decode cX10_movable 33 = .ok (.goto (-31), 3) := by decide +kernel
theorem dX10_movable_36 : decode cX10_movable 36 = .ok (.iconst (-1), 1) := by decide +kernel
theorem dX10_movable_37 : decode cX10_movable 37 = .ok (.ireturn, 1) := by decide +kernel
def fn_X10_movable_2 (N : Nat) : Nat → Mem → Nat → Int32 → Option (Int32 × Mem)
  | 0, _, _, _ => none
  | n + 1, M, a0, x1 =>
    (mm_gR M a0 10 16).bind fun b1 =>
    (mm_aI M b1 0 4).bind fun v2 =>
    if v2 ≤ x1 then
      some ((-1), M)
    else
      (mm_gR M a0 10 16).bind fun b3 =>
      (mm_aI M b3 0 (22 + x1)).bind fun v4 =>
      (mm_ck M a0 10).bind fun _ => mm_b2 (fn_X10_roomFor N M a0 v4) fun v6 M5 =>
      if v6 < 0 then
        fn_X10_movable_2 N n M5 a0 ((x1 + 1))
      else
        some (x1, M5)
set_option maxRecDepth 100000 in
set_option maxHeartbeats 4000000 in
theorem bk_X10_movable_2 {Γ : Gm} {ω : Wd} {k N : Nat} {r : Int32} {M' : Mem} (C : Cx Γ cX10_movable 2 RX10 ω 2 0 0) (hr : Γ.meth.sig.returnType = (some .int)) : ∀ (n : Nat) (M : Mem) (a0 : Nat) (x1 : Int32), fn_X10_movable_2 N n M a0 x1 = some (r, M') → JJ Γ (QF Γ ω k 0 0 (some (.int r)) M') 2 ω k M 0 0 2 [(0, .ref a0), (1, .int x1)] [] := by
  intro n
  induction n with
  | zero => intro M a0 x1 h; exact jv_no h
  | succ n ih =>
    intro M a0 x1 h
    rw [fn_X10_movable_2.eq_2] at h
    refine jv_iload_n C dX10_movable_2 rfl 1 rfl ?_
    refine jv_aload_n C dX10_movable_3 rfl 0 rfl ?_
    refine jv_getR C fa_X10_29 dX10_movable_4 h (fun b1 h => ?_)
    refine jv_iconst (v := 4) C dX10_movable_7 (by decide) ?_
    refine jv_iald C dX10_movable_8 h (fun v2 h => ?_)
    refine jv_icmp_ge (tgt := 36) C dX10_movable_9 (by decide) h (fun h => ?_) (fun h => ?_)
    · refine jv_iconst (v := (-1)) C dX10_movable_36 (by decide) ?_
      exact jv_iret C hr dX10_movable_37 h
    · refine jv_aload_n C dX10_movable_12 rfl 0 rfl ?_
      refine jv_aload_n C dX10_movable_13 rfl 0 rfl ?_
      refine jv_getR C fa_X10_29 dX10_movable_14 h (fun b3 h => ?_)
      refine jv_bipush (v := 22) C dX10_movable_17 (by decide) ?_
      refine jv_iload_n C dX10_movable_19 rfl 1 rfl ?_
      refine jv_iadd C dX10_movable_20 ?_
      refine jv_iald C dX10_movable_21 h (fun v4 h => ?_)
      refine jv_vI0 (As := [.int v4]) C lk_X10_218 rfl dX10_movable_22 rfl rfl (by decide) (by decide) (by decide) (Nat.le_of_ble_eq_true rfl) h (fun _ _ h => ct_X10_roomFor h) (fun v6 M5 h => ?_)
      refine jv_if_lt (tgt := 30) C dX10_movable_25 (by decide) h (fun h => ?_) (fun h => ?_)
      · refine jv_iinc (v := 1) (lv' := [(1, .int (x1 + 1)), (0, .ref a0)]) C dX10_movable_30 1 rfl (by decide) (by decide) rfl ?_
        refine jv_goto (tgt := 2) C dX10_movable_33 (by decide) ?_
        refine jv_sub [1, 0] rfl ?_
        exact ih _ _ _ h
      · refine jv_iload_n C dX10_movable_28 rfl 1 rfl ?_
        exact jv_iret C hr dX10_movable_29 h
def fn_X10_movable (N : Nat) (M : Mem) (a0 : Nat) : Option (Int32 × Mem) :=
  fn_X10_movable_2 N N M a0 0
set_option maxRecDepth 100000 in
set_option maxHeartbeats 4000000 in
theorem ct_X10_movable {l : Launch} {ω : Wd} {k N : Nat} {M : Mem} {a0 : Nat} {r : Int32} {M' : Mem} (h : fn_X10_movable N M a0 = some (r, M')) : CM l ω k yX10_movable cX10_movable 2 (some .int) 2 0 0 [.ref a0] M (some (.int r)) M' := by
  refine CM.of (by decide) (Nat.le_of_ble_eq_true rfl) fun Γ hl C hr hi => ?_
  subst hl
  unfold fn_X10_movable at h
  refine jv_iconst (v := 0) C dX10_movable_0 (by decide) ?_
  refine jv_istore_n (lv' := [(1, .int 0), (0, .ref a0)]) C dX10_movable_1 rfl (by decide) rfl ?_
  refine jv_sub [1, 0] rfl ?_
  exact bk_X10_movable_2 C hr _ _ _ _ h
theorem dX10_takeFromLoop_0 : decode cX10_takeFromLoop 0 = .ok (.aload_n 0, 1) := by decide +kernel
theorem dX10_takeFromLoop_1 : decode cX10_takeFromLoop 1 = .ok (.getfield 29, 3) := by decide +kernel
theorem dX10_takeFromLoop_4 : decode cX10_takeFromLoop 4 = .ok (.iconst 4, 1) := by decide +kernel
theorem dX10_takeFromLoop_5 : decode cX10_takeFromLoop 5 = .ok (.dup2, 1) := by decide +kernel
theorem dX10_takeFromLoop_6 : decode cX10_takeFromLoop 6 = .ok (.iaload, 1) := by decide +kernel
theorem dX10_takeFromLoop_7 : decode cX10_takeFromLoop 7 = .ok (.iconst 1, 1) := by decide +kernel
theorem dX10_takeFromLoop_8 : decode cX10_takeFromLoop 8 = .ok (.isub, 1) := by decide +kernel
theorem dX10_takeFromLoop_9 : decode cX10_takeFromLoop 9 = .ok (.iastore, 1) := by decide +kernel
theorem dX10_takeFromLoop_10 : decode cX10_takeFromLoop 10 = .ok (.iload_n 1, 1) := by decide +kernel
theorem dX10_takeFromLoop_11 : decode cX10_takeFromLoop 11 = .ok (.istore_n 2, 1) := by decide +kernel
theorem dX10_takeFromLoop_12 : decode cX10_takeFromLoop 12 = .ok (.iload_n 2, 1) := by decide +kernel
theorem dX10_takeFromLoop_13 : decode cX10_takeFromLoop 13 = .ok (.aload_n 0, 1) := by decide +kernel
theorem dX10_takeFromLoop_14 : decode cX10_takeFromLoop 14 = .ok (.getfield 29, 3) := by decide +kernel
theorem dX10_takeFromLoop_17 : decode cX10_takeFromLoop 17 = .ok (.iconst 4, 1) := by decide +kernel
theorem dX10_takeFromLoop_18 : decode cX10_takeFromLoop 18 = .ok (.iaload, 1) := by decide +kernel
theorem dX10_takeFromLoop_19 : decode cX10_takeFromLoop 19 = .ok (.if_icmp .ge 29, 3) := by decide +kernel
theorem dX10_takeFromLoop_22 : decode cX10_takeFromLoop 22 = .ok (.aload_n 0, 1) := by decide +kernel
theorem dX10_takeFromLoop_23 : decode cX10_takeFromLoop 23 = .ok (.getfield 29, 3) := by decide +kernel
theorem dX10_takeFromLoop_26 : decode cX10_takeFromLoop 26 = .ok (.bipush 22, 2) := by decide +kernel
theorem dX10_takeFromLoop_28 : decode cX10_takeFromLoop 28 = .ok (.iload_n 2, 1) := by decide +kernel
theorem dX10_takeFromLoop_29 : decode cX10_takeFromLoop 29 = .ok (.iadd, 1) := by decide +kernel
theorem dX10_takeFromLoop_30 : decode cX10_takeFromLoop 30 = .ok (.aload_n 0, 1) := by decide +kernel
theorem dX10_takeFromLoop_31 : decode cX10_takeFromLoop 31 = .ok (.getfield 29, 3) := by decide +kernel
theorem dX10_takeFromLoop_34 : decode cX10_takeFromLoop 34 = .ok (.bipush 22, 2) := by decide +kernel
theorem dX10_takeFromLoop_36 : decode cX10_takeFromLoop 36 = .ok (.iload_n 2, 1) := by decide +kernel
theorem dX10_takeFromLoop_37 : decode cX10_takeFromLoop 37 = .ok (.iadd, 1) := by decide +kernel
theorem dX10_takeFromLoop_38 : decode cX10_takeFromLoop 38 = .ok (.iconst 1, 1) := by decide +kernel
theorem dX10_takeFromLoop_39 : decode cX10_takeFromLoop 39 = .ok (.iadd, 1) := by decide +kernel
theorem dX10_takeFromLoop_40 : decode cX10_takeFromLoop 40 = .ok (.iaload, 1) := by decide +kernel
theorem dX10_takeFromLoop_41 : decode cX10_takeFromLoop 41 = .ok (.iastore, 1) := by decide +kernel
theorem dX10_takeFromLoop_42 : decode cX10_takeFromLoop 42 = .ok (.iinc 2 1, 3) := by decide +kernel
theorem dX10_takeFromLoop_45 : decode cX10_takeFromLoop 45 = .ok (.goto (-33), 3) := by decide +kernel
theorem dX10_takeFromLoop_48 : decode cX10_takeFromLoop 48 = .ok (.return_, 1) := by decide +kernel
def fn_X10_takeFromLoop_12 (N : Nat) : Nat → Mem → Nat → Int32 → Option (Unit × Mem)
  | 0, _, _, _ => none
  | n + 1, M, a0, x2 =>
    (mm_gR M a0 10 16).bind fun b1 =>
    (mm_aI M b1 0 4).bind fun v2 =>
    if v2 ≤ x2 then
      some ((), M)
    else
      (mm_gR M a0 10 16).bind fun b3 =>
      (mm_gR M a0 10 16).bind fun b4 =>
      (mm_aI M b4 0 ((22 + x2) + 1)).bind fun v5 =>
      (mm_sI M b3 0 (22 + x2) v5).bind fun M6 =>
      fn_X10_takeFromLoop_12 N n M6 a0 ((x2 + 1))
set_option maxRecDepth 100000 in
set_option maxHeartbeats 4000000 in
theorem bk_X10_takeFromLoop_12 {Γ : Gm} {ω : Wd} {k N : Nat} {r : Unit} {M' : Mem} (C : Cx Γ cX10_takeFromLoop 3 RX10 ω 0 0 0) (hr : Γ.meth.sig.returnType = none) : ∀ (n : Nat) (M : Mem) (a0 : Nat) (x2 : Int32), fn_X10_takeFromLoop_12 N n M a0 x2 = some (r, M') → JJ Γ (QF Γ ω k 0 0 none M') 3 ω k M 0 0 12 [(0, .ref a0), (2, .int x2)] [] := by
  intro n
  induction n with
  | zero => intro M a0 x2 h; exact jv_no h
  | succ n ih =>
    intro M a0 x2 h
    rw [fn_X10_takeFromLoop_12.eq_2] at h
    refine jv_iload_n C dX10_takeFromLoop_12 rfl 1 rfl ?_
    refine jv_aload_n C dX10_takeFromLoop_13 rfl 0 rfl ?_
    refine jv_getR C fa_X10_29 dX10_takeFromLoop_14 h (fun b1 h => ?_)
    refine jv_iconst (v := 4) C dX10_takeFromLoop_17 (by decide) ?_
    refine jv_iald C dX10_takeFromLoop_18 h (fun v2 h => ?_)
    refine jv_icmp_ge (tgt := 48) C dX10_takeFromLoop_19 (by decide) h (fun h => ?_) (fun h => ?_)
    · exact jv_vret C hr dX10_takeFromLoop_48 h
    · refine jv_aload_n C dX10_takeFromLoop_22 rfl 0 rfl ?_
      refine jv_getR C fa_X10_29 dX10_takeFromLoop_23 h (fun b3 h => ?_)
      refine jv_bipush (v := 22) C dX10_takeFromLoop_26 (by decide) ?_
      refine jv_iload_n C dX10_takeFromLoop_28 rfl 1 rfl ?_
      refine jv_iadd C dX10_takeFromLoop_29 ?_
      refine jv_aload_n C dX10_takeFromLoop_30 rfl 0 rfl ?_
      refine jv_getR C fa_X10_29 dX10_takeFromLoop_31 h (fun b4 h => ?_)
      refine jv_bipush (v := 22) C dX10_takeFromLoop_34 (by decide) ?_
      refine jv_iload_n C dX10_takeFromLoop_36 rfl 1 rfl ?_
      refine jv_iadd C dX10_takeFromLoop_37 ?_
      refine jv_iconst (v := 1) C dX10_takeFromLoop_38 (by decide) ?_
      refine jv_iadd C dX10_takeFromLoop_39 ?_
      refine jv_iald C dX10_takeFromLoop_40 h (fun v5 h => ?_)
      refine jv_iast C dX10_takeFromLoop_41 h (fun M6 h => ?_)
      refine jv_iinc (v := 1) (lv' := [(2, .int (x2 + 1)), (0, .ref a0)]) C dX10_takeFromLoop_42 1 rfl (by decide) (by decide) rfl ?_
      refine jv_goto (tgt := 12) C dX10_takeFromLoop_45 (by decide) ?_
      refine jv_sub [1, 0] rfl ?_
      exact ih _ _ _ h
def fn_X10_takeFromLoop (N : Nat) (M : Mem) (a0 : Nat) (x1 : Int32) : Option (Unit × Mem) :=
  (mm_gR M a0 10 16).bind fun b1 =>
  (mm_aI M b1 0 4).bind fun v2 =>
  (mm_sI M b1 0 4 (v2 - 1)).bind fun M3 =>
  fn_X10_takeFromLoop_12 N N M3 a0 x1
set_option maxRecDepth 100000 in
set_option maxHeartbeats 4000000 in
theorem ct_X10_takeFromLoop {l : Launch} {ω : Wd} {k N : Nat} {M : Mem} {a0 : Nat} {x1 : Int32} {r : Unit} {M' : Mem} (h : fn_X10_takeFromLoop N M a0 x1 = some (r, M')) : CM l ω k yX10_takeFromLoop cX10_takeFromLoop 3 none 0 0 0 [.ref a0, .int x1] M none M' := by
  refine CM.of (by decide) (Nat.le_of_ble_eq_true rfl) fun Γ hl C hr hi => ?_
  subst hl
  unfold fn_X10_takeFromLoop at h
  refine jv_aload_n C dX10_takeFromLoop_0 rfl 0 rfl ?_
  refine jv_getR C fa_X10_29 dX10_takeFromLoop_1 h (fun b1 h => ?_)
  refine jv_iconst (v := 4) C dX10_takeFromLoop_4 (by decide) ?_
  refine jv_dup2 C dX10_takeFromLoop_5 rfl rfl ?_
  refine jv_iald C dX10_takeFromLoop_6 h (fun v2 h => ?_)
  refine jv_iconst (v := 1) C dX10_takeFromLoop_7 (by decide) ?_
  refine jv_isub C dX10_takeFromLoop_8 ?_
  refine jv_iast C dX10_takeFromLoop_9 h (fun M3 h => ?_)
  refine jv_iload_n C dX10_takeFromLoop_10 rfl 1 rfl ?_
  refine jv_istore_n (lv' := [(2, .int x1), (0, .ref a0), (1, .int x1)]) C dX10_takeFromLoop_11 rfl (by decide) rfl ?_
  refine jv_sub [1, 0] rfl ?_
  exact bk_X10_takeFromLoop_12 C hr _ _ _ _ h
theorem dX10_note_0 : decode cX10_note 0 = .ok (.aload_n 0, 1) := by decide +kernel
theorem dX10_note_1 : decode cX10_note 1 = .ok (.getfield 29, 3) := by decide +kernel
theorem dX10_note_4 : decode cX10_note 4 = .ok (.bipush 7, 2) := by decide +kernel
theorem dX10_note_6 : decode cX10_note 6 = .ok (.iaload, 1) := by decide +kernel
theorem dX10_note_7 : decode cX10_note 7 = .ok (.bipush 40, 2) := by decide +kernel
theorem dX10_note_9 : decode cX10_note 9 = .ok (.if_icmp .ne 48, 3) := by decide +kernel
theorem dX10_note_12 : decode cX10_note 12 = .ok (.iconst 1, 1) := by decide +kernel
theorem dX10_note_13 : decode cX10_note 13 = .ok (.istore_n 2, 1) := by decide +kernel
theorem dX10_note_14 : decode cX10_note 14 = .ok (.iload_n 2, 1) := by decide +kernel
theorem dX10_note_15 : decode cX10_note 15 = .ok (.bipush 40, 2) := by decide +kernel
theorem dX10_note_17 : decode cX10_note 17 = .ok (.if_icmp .ge 29, 3) := by decide +kernel
theorem dX10_note_20 : decode cX10_note 20 = .ok (.aload_n 0, 1) := by decide +kernel
theorem dX10_note_21 : decode cX10_note 21 = .ok (.getfield 29, 3) := by decide +kernel
theorem dX10_note_24 : decode cX10_note 24 = .ok (.bipush 42, 2) := by decide +kernel
theorem dX10_note_26 : decode cX10_note 26 = .ok (.iload_n 2, 1) := by decide +kernel
theorem dX10_note_27 : decode cX10_note 27 = .ok (.iadd, 1) := by decide +kernel
theorem dX10_note_28 : decode cX10_note 28 = .ok (.iconst 1, 1) := by decide +kernel
theorem dX10_note_29 : decode cX10_note 29 = .ok (.isub, 1) := by decide +kernel
theorem dX10_note_30 : decode cX10_note 30 = .ok (.aload_n 0, 1) := by decide +kernel
theorem dX10_note_31 : decode cX10_note 31 = .ok (.getfield 29, 3) := by decide +kernel
theorem dX10_note_34 : decode cX10_note 34 = .ok (.bipush 42, 2) := by decide +kernel
theorem dX10_note_36 : decode cX10_note 36 = .ok (.iload_n 2, 1) := by decide +kernel
theorem dX10_note_37 : decode cX10_note 37 = .ok (.iadd, 1) := by decide +kernel
theorem dX10_note_38 : decode cX10_note 38 = .ok (.iaload, 1) := by decide +kernel
theorem dX10_note_39 : decode cX10_note 39 = .ok (.iastore, 1) := by decide +kernel
theorem dX10_note_40 : decode cX10_note 40 = .ok (.iinc 2 1, 3) := by decide +kernel
theorem dX10_note_43 : decode cX10_note 43 = .ok (.goto (-29), 3) := by decide +kernel
theorem dX10_note_46 : decode cX10_note 46 = .ok (.aload_n 0, 1) := by decide +kernel
theorem dX10_note_47 : decode cX10_note 47 = .ok (.getfield 29, 3) := by decide +kernel
theorem dX10_note_50 : decode cX10_note 50 = .ok (.bipush 7, 2) := by decide +kernel
theorem dX10_note_52 : decode cX10_note 52 = .ok (.dup2, 1) := by decide +kernel
theorem dX10_note_53 : decode cX10_note 53 = .ok (.iaload, 1) := by decide +kernel
theorem dX10_note_54 : decode cX10_note 54 = .ok (.iconst 1, 1) := by decide +kernel
theorem dX10_note_55 : decode cX10_note 55 = .ok (.isub, 1) := by decide +kernel
theorem dX10_note_56 : decode cX10_note 56 = .ok (.iastore, 1) := by decide +kernel
theorem dX10_note_57 : decode cX10_note 57 = .ok (.aload_n 0, 1) := by decide +kernel
theorem dX10_note_58 : decode cX10_note 58 = .ok (.getfield 29, 3) := by decide +kernel
theorem dX10_note_61 : decode cX10_note 61 = .ok (.bipush 42, 2) := by decide +kernel
theorem dX10_note_63 : decode cX10_note 63 = .ok (.aload_n 0, 1) := by decide +kernel
theorem dX10_note_64 : decode cX10_note 64 = .ok (.getfield 29, 3) := by decide +kernel
theorem dX10_note_67 : decode cX10_note 67 = .ok (.bipush 7, 2) := by decide +kernel
theorem dX10_note_69 : decode cX10_note 69 = .ok (.iaload, 1) := by decide +kernel
theorem dX10_note_70 : decode cX10_note 70 = .ok (.iadd, 1) := by decide +kernel
theorem dX10_note_71 : decode cX10_note 71 = .ok (.iload_n 1, 1) := by decide +kernel
theorem dX10_note_72 : decode cX10_note 72 = .ok (.iastore, 1) := by decide +kernel
theorem dX10_note_73 : decode cX10_note 73 = .ok (.aload_n 0, 1) := by decide +kernel
theorem dX10_note_74 : decode cX10_note 74 = .ok (.getfield 29, 3) := by decide +kernel
theorem dX10_note_77 : decode cX10_note 77 = .ok (.bipush 7, 2) := by decide +kernel
theorem dX10_note_79 : decode cX10_note 79 = .ok (.dup2, 1) := by decide +kernel
theorem dX10_note_80 : decode cX10_note 80 = .ok (.iaload, 1) := by decide +kernel
theorem dX10_note_81 : decode cX10_note 81 = .ok (.iconst 1, 1) := by decide +kernel
theorem dX10_note_82 : decode cX10_note 82 = .ok (.iadd, 1) := by decide +kernel
theorem dX10_note_83 : decode cX10_note 83 = .ok (.iastore, 1) := by decide +kernel
theorem dX10_note_84 : decode cX10_note 84 = .ok (.aload_n 0, 1) := by decide +kernel
theorem dX10_note_85 : decode cX10_note 85 = .ok (.getfield 29, 3) := by decide +kernel
theorem dX10_note_88 : decode cX10_note 88 = .ok (.bipush 6, 2) := by decide +kernel
theorem dX10_note_90 : decode cX10_note 90 = .ok (.dup2, 1) := by decide +kernel
theorem dX10_note_91 : decode cX10_note 91 = .ok (.iaload, 1) := by decide +kernel
theorem dX10_note_92 : decode cX10_note 92 = .ok (.iconst 1, 1) := by decide +kernel
theorem dX10_note_93 : decode cX10_note 93 = .ok (.iadd, 1) := by decide +kernel
theorem dX10_note_94 : decode cX10_note 94 = .ok (.iastore, 1) := by decide +kernel
theorem dX10_note_95 : decode cX10_note 95 = .ok (.return_, 1) := by decide +kernel
def fn_X10_note_57 (N : Nat) (M : Mem) (a0 : Nat) (x1 : Int32) : Option (Unit × Mem) :=
  (mm_gR M a0 10 16).bind fun b1 =>
  (mm_gR M a0 10 16).bind fun b2 =>
  (mm_aI M b2 0 7).bind fun v3 =>
  (mm_sI M b1 0 (42 + v3) x1).bind fun M4 =>
  (mm_gR M4 a0 10 16).bind fun b5 =>
  (mm_aI M4 b5 0 7).bind fun v6 =>
  (mm_sI M4 b5 0 7 (v6 + 1)).bind fun M7 =>
  (mm_gR M7 a0 10 16).bind fun b8 =>
  (mm_aI M7 b8 0 6).bind fun v9 =>
  (mm_sI M7 b8 0 6 (v9 + 1)).bind fun M10 =>
  some ((), M10)
set_option maxRecDepth 100000 in
set_option maxHeartbeats 4000000 in
theorem bk_X10_note_57 {Γ : Gm} {ω : Wd} {k N : Nat} {r : Unit} {M' : Mem} (C : Cx Γ cX10_note 3 RX10 ω 0 0 0) (hr : Γ.meth.sig.returnType = none) (M : Mem) (a0 : Nat) (x1 : Int32) (h : fn_X10_note_57 N M a0 x1 = some (r, M')) : JJ Γ (QF Γ ω k 0 0 none M') 3 ω k M 0 0 57 [(0, .ref a0), (1, .int x1)] [] := by
  unfold fn_X10_note_57 at h
  refine jv_aload_n C dX10_note_57 rfl 0 rfl ?_
  refine jv_getR C fa_X10_29 dX10_note_58 h (fun b1 h => ?_)
  refine jv_bipush (v := 42) C dX10_note_61 (by decide) ?_
  refine jv_aload_n C dX10_note_63 rfl 0 rfl ?_
  refine jv_getR C fa_X10_29 dX10_note_64 h (fun b2 h => ?_)
  refine jv_bipush (v := 7) C dX10_note_67 (by decide) ?_
  refine jv_iald C dX10_note_69 h (fun v3 h => ?_)
  refine jv_iadd C dX10_note_70 ?_
  refine jv_iload_n C dX10_note_71 rfl 1 rfl ?_
  refine jv_iast C dX10_note_72 h (fun M4 h => ?_)
  refine jv_aload_n C dX10_note_73 rfl 0 rfl ?_
  refine jv_getR C fa_X10_29 dX10_note_74 h (fun b5 h => ?_)
  refine jv_bipush (v := 7) C dX10_note_77 (by decide) ?_
  refine jv_dup2 C dX10_note_79 rfl rfl ?_
  refine jv_iald C dX10_note_80 h (fun v6 h => ?_)
  refine jv_iconst (v := 1) C dX10_note_81 (by decide) ?_
  refine jv_iadd C dX10_note_82 ?_
  refine jv_iast C dX10_note_83 h (fun M7 h => ?_)
  refine jv_aload_n C dX10_note_84 rfl 0 rfl ?_
  refine jv_getR C fa_X10_29 dX10_note_85 h (fun b8 h => ?_)
  refine jv_bipush (v := 6) C dX10_note_88 (by decide) ?_
  refine jv_dup2 C dX10_note_90 rfl rfl ?_
  refine jv_iald C dX10_note_91 h (fun v9 h => ?_)
  refine jv_iconst (v := 1) C dX10_note_92 (by decide) ?_
  refine jv_iadd C dX10_note_93 ?_
  refine jv_iast C dX10_note_94 h (fun M10 h => ?_)
  exact jv_vret C hr dX10_note_95 h
def fn_X10_note_14 (N : Nat) : Nat → Mem → Nat → Int32 → Int32 → Option (Unit × Mem)
  | 0, _, _, _, _ => none
  | n + 1, M, a0, x1, x2 =>
    if 40 ≤ x2 then
      (mm_gR M a0 10 16).bind fun b1 =>
      (mm_aI M b1 0 7).bind fun v2 =>
      (mm_sI M b1 0 7 (v2 - 1)).bind fun M3 =>
      fn_X10_note_57 N M3 a0 x1
    else
      (mm_gR M a0 10 16).bind fun b4 =>
      (mm_gR M a0 10 16).bind fun b5 =>
      (mm_aI M b5 0 (42 + x2)).bind fun v6 =>
      (mm_sI M b4 0 ((42 + x2) - 1) v6).bind fun M7 =>
      fn_X10_note_14 N n M7 a0 x1 ((x2 + 1))
set_option maxRecDepth 100000 in
set_option maxHeartbeats 4000000 in
theorem bk_X10_note_14 {Γ : Gm} {ω : Wd} {k N : Nat} {r : Unit} {M' : Mem} (C : Cx Γ cX10_note 3 RX10 ω 0 0 0) (hr : Γ.meth.sig.returnType = none) : ∀ (n : Nat) (M : Mem) (a0 : Nat) (x1 : Int32) (x2 : Int32), fn_X10_note_14 N n M a0 x1 x2 = some (r, M') → JJ Γ (QF Γ ω k 0 0 none M') 3 ω k M 0 0 14 [(0, .ref a0), (1, .int x1), (2, .int x2)] [] := by
  intro n
  induction n with
  | zero => intro M a0 x1 x2 h; exact jv_no h
  | succ n ih =>
    intro M a0 x1 x2 h
    rw [fn_X10_note_14.eq_2] at h
    refine jv_iload_n C dX10_note_14 rfl 2 rfl ?_
    refine jv_bipush (v := 40) C dX10_note_15 (by decide) ?_
    refine jv_icmp_ge (tgt := 46) C dX10_note_17 (by decide) h (fun h => ?_) (fun h => ?_)
    · refine jv_aload_n C dX10_note_46 rfl 0 rfl ?_
      refine jv_getR C fa_X10_29 dX10_note_47 h (fun b1 h => ?_)
      refine jv_bipush (v := 7) C dX10_note_50 (by decide) ?_
      refine jv_dup2 C dX10_note_52 rfl rfl ?_
      refine jv_iald C dX10_note_53 h (fun v2 h => ?_)
      refine jv_iconst (v := 1) C dX10_note_54 (by decide) ?_
      refine jv_isub C dX10_note_55 ?_
      refine jv_iast C dX10_note_56 h (fun M3 h => ?_)
      refine jv_sub [0, 1] rfl ?_
      exact bk_X10_note_57 C hr _ _ _ h
    · refine jv_aload_n C dX10_note_20 rfl 0 rfl ?_
      refine jv_getR C fa_X10_29 dX10_note_21 h (fun b4 h => ?_)
      refine jv_bipush (v := 42) C dX10_note_24 (by decide) ?_
      refine jv_iload_n C dX10_note_26 rfl 2 rfl ?_
      refine jv_iadd C dX10_note_27 ?_
      refine jv_iconst (v := 1) C dX10_note_28 (by decide) ?_
      refine jv_isub C dX10_note_29 ?_
      refine jv_aload_n C dX10_note_30 rfl 0 rfl ?_
      refine jv_getR C fa_X10_29 dX10_note_31 h (fun b5 h => ?_)
      refine jv_bipush (v := 42) C dX10_note_34 (by decide) ?_
      refine jv_iload_n C dX10_note_36 rfl 2 rfl ?_
      refine jv_iadd C dX10_note_37 ?_
      refine jv_iald C dX10_note_38 h (fun v6 h => ?_)
      refine jv_iast C dX10_note_39 h (fun M7 h => ?_)
      refine jv_iinc (v := 1) (lv' := [(2, .int (x2 + 1)), (0, .ref a0), (1, .int x1)]) C dX10_note_40 2 rfl (by decide) (by decide) rfl ?_
      refine jv_goto (tgt := 14) C dX10_note_43 (by decide) ?_
      refine jv_sub [1, 2, 0] rfl ?_
      exact ih _ _ _ _ h
def fn_X10_note (N : Nat) (M : Mem) (a0 : Nat) (x1 : Int32) : Option (Unit × Mem) :=
  (mm_gR M a0 10 16).bind fun b1 =>
  (mm_aI M b1 0 7).bind fun v2 =>
  if v2 = 40 then
    fn_X10_note_14 N N M a0 x1 1
  else
    fn_X10_note_57 N M a0 x1
set_option maxRecDepth 100000 in
set_option maxHeartbeats 4000000 in
theorem ct_X10_note {l : Launch} {ω : Wd} {k N : Nat} {M : Mem} {a0 : Nat} {x1 : Int32} {r : Unit} {M' : Mem} (h : fn_X10_note N M a0 x1 = some (r, M')) : CM l ω k yX10_note cX10_note 3 none 0 0 0 [.ref a0, .int x1] M none M' := by
  refine CM.of (by decide) (Nat.le_of_ble_eq_true rfl) fun Γ hl C hr hi => ?_
  subst hl
  unfold fn_X10_note at h
  refine jv_aload_n C dX10_note_0 rfl 0 rfl ?_
  refine jv_getR C fa_X10_29 dX10_note_1 h (fun b1 h => ?_)
  refine jv_bipush (v := 7) C dX10_note_4 (by decide) ?_
  refine jv_iald C dX10_note_6 h (fun v2 h => ?_)
  refine jv_bipush (v := 40) C dX10_note_7 (by decide) ?_
  refine jv_icmp_ne (tgt := 57) C dX10_note_9 (by decide) h (fun h => ?_) (fun h => ?_)
  · exact bk_X10_note_57 C hr _ _ _ h
  · refine jv_iconst (v := 1) C dX10_note_12 (by decide) ?_
    refine jv_istore_n (lv' := [(2, .int 1), (0, .ref a0), (1, .int x1)]) C dX10_note_13 rfl (by decide) rfl ?_
    refine jv_sub [1, 2, 0] rfl ?_
    exact bk_X10_note_14 C hr _ _ _ _ _ h
theorem dX10_takeFromHopper_0 : decode cX10_takeFromHopper 0 = .ok (.aload_n 0, 1) := by decide +kernel
theorem dX10_takeFromHopper_1 : decode cX10_takeFromHopper 1 = .ok (.getfield 29, 3) := by decide +kernel
theorem dX10_takeFromHopper_4 : decode cX10_takeFromHopper 4 = .ok (.iconst 3, 1) := by decide +kernel
theorem dX10_takeFromHopper_5 : decode cX10_takeFromHopper 5 = .ok (.dup2, 1) := by decide +kernel
theorem dX10_takeFromHopper_6 : decode cX10_takeFromHopper 6 = .ok (.iaload, 1) := by decide +kernel
theorem dX10_takeFromHopper_7 : decode cX10_takeFromHopper 7 = .ok (.iconst 1, 1) := by decide +kernel
theorem dX10_takeFromHopper_8 : decode cX10_takeFromHopper 8 = .ok (.isub, 1) := by decide +kernel
theorem dX10_takeFromHopper_9 : decode cX10_takeFromHopper 9 = .ok (.iastore, 1) := by decide +kernel
theorem dX10_takeFromHopper_10 : decode cX10_takeFromHopper 10 = .ok (.iconst 0, 1) := by decide +kernel
theorem dX10_takeFromHopper_11 : decode cX10_takeFromHopper 11 = .ok (.istore_n 1, 1) := by decide +kernel
theorem dX10_takeFromHopper_12 : decode cX10_takeFromHopper 12 = .ok (.iload_n 1, 1) := by decide +kernel
theorem dX10_takeFromHopper_13 : decode cX10_takeFromHopper 13 = .ok (.iconst 2, 1) := by decide +kernel
theorem dX10_takeFromHopper_14 : decode cX10_takeFromHopper 14 = .ok (.aload_n 0, 1) := by decide +kernel
theorem dX10_takeFromHopper_15 : decode cX10_takeFromHopper 15 = .ok (.getfield 29, 3) := by decide +kernel
theorem dX10_takeFromHopper_18 : decode cX10_takeFromHopper 18 = .ok (.iconst 3, 1) := by decide +kernel
theorem dX10_takeFromHopper_19 : decode cX10_takeFromHopper 19 = .ok (.iaload, 1) := by decide +kernel
theorem dX10_takeFromHopper_20 : decode cX10_takeFromHopper 20 = .ok (.imul, 1) := by decide +kernel
theorem dX10_takeFromHopper_21 : decode cX10_takeFromHopper 21 = .ok (.if_icmp .ge 29, 3) := by decide +kernel
theorem dX10_takeFromHopper_24 : decode cX10_takeFromHopper 24 = .ok (.aload_n 0, 1) := by decide +kernel
theorem dX10_takeFromHopper_25 : decode cX10_takeFromHopper 25 = .ok (.getfield 29, 3) := by decide +kernel
theorem dX10_takeFromHopper_28 : decode cX10_takeFromHopper 28 = .ok (.bipush 82, 2) := by decide +kernel
theorem dX10_takeFromHopper_30 : decode cX10_takeFromHopper 30 = .ok (.iload_n 1, 1) := by decide +kernel
theorem dX10_takeFromHopper_31 : decode cX10_takeFromHopper 31 = .ok (.iadd, 1) := by decide +kernel
theorem dX10_takeFromHopper_32 : decode cX10_takeFromHopper 32 = .ok (.aload_n 0, 1) := by decide +kernel
theorem dX10_takeFromHopper_33 : decode cX10_takeFromHopper 33 = .ok (.getfield 29, 3) := by decide +kernel
theorem dX10_takeFromHopper_36 : decode cX10_takeFromHopper 36 = .ok (.bipush 82, 2) := by decide +kernel
theorem dX10_takeFromHopper_38 : decode cX10_takeFromHopper 38 = .ok (.iload_n 1, 1) := by decide +kernel
theorem dX10_takeFromHopper_39 : decode cX10_takeFromHopper 39 = .ok (.iadd, 1) := by decide +kernel
theorem dX10_takeFromHopper_40 : decode cX10_takeFromHopper 40 = .ok (.iconst 2, 1) := by decide +kernel
theorem dX10_takeFromHopper_41 : decode cX10_takeFromHopper 41 = .ok (.iadd, 1) := by decide +kernel
theorem dX10_takeFromHopper_42 : decode cX10_takeFromHopper 42 = .ok (.iaload, 1) := by decide +kernel
theorem dX10_takeFromHopper_43 : decode cX10_takeFromHopper 43 = .ok (.iastore, 1) := by decide +kernel
theorem dX10_takeFromHopper_44 : decode cX10_takeFromHopper 44 = .ok (.iinc 1 1, 3) := by decide +kernel
theorem dX10_takeFromHopper_47 : decode cX10_takeFromHopper 47 = .ok (.goto (-35), 3) := by decide +kernel
theorem dX10_takeFromHopper_50 : decode cX10_takeFromHopper 50 = .ok (.return_, 1) := by decide +kernel
def fn_X10_takeFromHopper_12 (N : Nat) : Nat → Mem → Nat → Int32 → Option (Unit × Mem)
  | 0, _, _, _ => none
  | n + 1, M, a0, x1 =>
    (mm_gR M a0 10 16).bind fun b1 =>
    (mm_aI M b1 0 3).bind fun v2 =>
    if (2 * v2) ≤ x1 then
      some ((), M)
    else
      (mm_gR M a0 10 16).bind fun b3 =>
      (mm_gR M a0 10 16).bind fun b4 =>
      (mm_aI M b4 0 ((82 + x1) + 2)).bind fun v5 =>
      (mm_sI M b3 0 (82 + x1) v5).bind fun M6 =>
      fn_X10_takeFromHopper_12 N n M6 a0 ((x1 + 1))
set_option maxRecDepth 100000 in
set_option maxHeartbeats 4000000 in
theorem bk_X10_takeFromHopper_12 {Γ : Gm} {ω : Wd} {k N : Nat} {r : Unit} {M' : Mem} (C : Cx Γ cX10_takeFromHopper 2 RX10 ω 0 0 0) (hr : Γ.meth.sig.returnType = none) : ∀ (n : Nat) (M : Mem) (a0 : Nat) (x1 : Int32), fn_X10_takeFromHopper_12 N n M a0 x1 = some (r, M') → JJ Γ (QF Γ ω k 0 0 none M') 2 ω k M 0 0 12 [(0, .ref a0), (1, .int x1)] [] := by
  intro n
  induction n with
  | zero => intro M a0 x1 h; exact jv_no h
  | succ n ih =>
    intro M a0 x1 h
    rw [fn_X10_takeFromHopper_12.eq_2] at h
    refine jv_iload_n C dX10_takeFromHopper_12 rfl 1 rfl ?_
    refine jv_iconst (v := 2) C dX10_takeFromHopper_13 (by decide) ?_
    refine jv_aload_n C dX10_takeFromHopper_14 rfl 0 rfl ?_
    refine jv_getR C fa_X10_29 dX10_takeFromHopper_15 h (fun b1 h => ?_)
    refine jv_iconst (v := 3) C dX10_takeFromHopper_18 (by decide) ?_
    refine jv_iald C dX10_takeFromHopper_19 h (fun v2 h => ?_)
    refine jv_imul C dX10_takeFromHopper_20 ?_
    refine jv_icmp_ge (tgt := 50) C dX10_takeFromHopper_21 (by decide) h (fun h => ?_) (fun h => ?_)
    · exact jv_vret C hr dX10_takeFromHopper_50 h
    · refine jv_aload_n C dX10_takeFromHopper_24 rfl 0 rfl ?_
      refine jv_getR C fa_X10_29 dX10_takeFromHopper_25 h (fun b3 h => ?_)
      refine jv_bipush (v := 82) C dX10_takeFromHopper_28 (by decide) ?_
      refine jv_iload_n C dX10_takeFromHopper_30 rfl 1 rfl ?_
      refine jv_iadd C dX10_takeFromHopper_31 ?_
      refine jv_aload_n C dX10_takeFromHopper_32 rfl 0 rfl ?_
      refine jv_getR C fa_X10_29 dX10_takeFromHopper_33 h (fun b4 h => ?_)
      refine jv_bipush (v := 82) C dX10_takeFromHopper_36 (by decide) ?_
      refine jv_iload_n C dX10_takeFromHopper_38 rfl 1 rfl ?_
      refine jv_iadd C dX10_takeFromHopper_39 ?_
      refine jv_iconst (v := 2) C dX10_takeFromHopper_40 (by decide) ?_
      refine jv_iadd C dX10_takeFromHopper_41 ?_
      refine jv_iald C dX10_takeFromHopper_42 h (fun v5 h => ?_)
      refine jv_iast C dX10_takeFromHopper_43 h (fun M6 h => ?_)
      refine jv_iinc (v := 1) (lv' := [(1, .int (x1 + 1)), (0, .ref a0)]) C dX10_takeFromHopper_44 1 rfl (by decide) (by decide) rfl ?_
      refine jv_goto (tgt := 12) C dX10_takeFromHopper_47 (by decide) ?_
      refine jv_sub [1, 0] rfl ?_
      exact ih _ _ _ h
def fn_X10_takeFromHopper (N : Nat) (M : Mem) (a0 : Nat) : Option (Unit × Mem) :=
  (mm_gR M a0 10 16).bind fun b1 =>
  (mm_aI M b1 0 3).bind fun v2 =>
  (mm_sI M b1 0 3 (v2 - 1)).bind fun M3 =>
  fn_X10_takeFromHopper_12 N N M3 a0 0
set_option maxRecDepth 100000 in
set_option maxHeartbeats 4000000 in
theorem ct_X10_takeFromHopper {l : Launch} {ω : Wd} {k N : Nat} {M : Mem} {a0 : Nat} {r : Unit} {M' : Mem} (h : fn_X10_takeFromHopper N M a0 = some (r, M')) : CM l ω k yX10_takeFromHopper cX10_takeFromHopper 2 none 0 0 0 [.ref a0] M none M' := by
  refine CM.of (by decide) (Nat.le_of_ble_eq_true rfl) fun Γ hl C hr hi => ?_
  subst hl
  unfold fn_X10_takeFromHopper at h
  refine jv_aload_n C dX10_takeFromHopper_0 rfl 0 rfl ?_
  refine jv_getR C fa_X10_29 dX10_takeFromHopper_1 h (fun b1 h => ?_)
  refine jv_iconst (v := 3) C dX10_takeFromHopper_4 (by decide) ?_
  refine jv_dup2 C dX10_takeFromHopper_5 rfl rfl ?_
  refine jv_iald C dX10_takeFromHopper_6 h (fun v2 h => ?_)
  refine jv_iconst (v := 1) C dX10_takeFromHopper_7 (by decide) ?_
  refine jv_isub C dX10_takeFromHopper_8 ?_
  refine jv_iast C dX10_takeFromHopper_9 h (fun M3 h => ?_)
  refine jv_iconst (v := 0) C dX10_takeFromHopper_10 (by decide) ?_
  refine jv_istore_n (lv' := [(1, .int 0), (0, .ref a0)]) C dX10_takeFromHopper_11 rfl (by decide) rfl ?_
  refine jv_sub [1, 0] rfl ?_
  exact bk_X10_takeFromHopper_12 C hr _ _ _ _ h
theorem dX10_doStep_0 : decode cX10_doStep 0 = .ok (.aload_n 0, 1) := by decide +kernel
theorem dX10_doStep_1 : decode cX10_doStep 1 = .ok (.invokevirtual 221, 3) := by decide +kernel
theorem dX10_doStep_4 : decode cX10_doStep 4 = .ok (.istore_n 2, 1) := by decide +kernel
theorem dX10_doStep_5 : decode cX10_doStep 5 = .ok (.iload_n 2, 1) := by decide +kernel
theorem dX10_doStep_6 : decode cX10_doStep 6 = .ok (.ifCond .lt 27, 3) := by decide +kernel
theorem dX10_doStep_9 : decode cX10_doStep 9 = .ok (.aload_n 0, 1) := by decide +kernel
theorem dX10_doStep_10 : decode cX10_doStep 10 = .ok (.iload_n 2, 1) := by decide +kernel
theorem dX10_doStep_11 : decode cX10_doStep 11 = .ok (.invokevirtual 274, 3) := by decide +kernel
theorem dX10_doStep_14 : decode cX10_doStep 14 = .ok (.aload_n 0, 1) := by decide +kernel
theorem dX10_doStep_15 : decode cX10_doStep 15 = .ok (.getfield 29, 3) := by decide +kernel
theorem dX10_doStep_18 : decode cX10_doStep 18 = .ok (.bipush 14, 2) := by decide +kernel
theorem dX10_doStep_20 : decode cX10_doStep 20 = .ok (.iload_n 1, 1) := by decide +kernel
theorem dX10_doStep_21 : decode cX10_doStep 21 = .ok (.iadd, 1) := by decide +kernel
theorem dX10_doStep_22 : decode cX10_doStep 22 = .ok (.dup2, 1) := by decide +kernel
theorem dX10_doStep_23 : decode cX10_doStep 23 = .ok (.iaload, 1) := by decide +kernel
theorem dX10_doStep_24 : decode cX10_doStep 24 = .ok (.iconst 1, 1) := by decide +kernel
theorem dX10_doStep_25 : decode cX10_doStep 25 = .ok (.iadd, 1) := by decide +kernel
theorem dX10_doStep_26 : decode cX10_doStep 26 = .ok (.iastore, 1) := by decide +kernel
theorem dX10_doStep_27 : decode cX10_doStep 27 = .ok (.aload_n 0, 1) := by decide +kernel
theorem dX10_doStep_28 : decode cX10_doStep 28 = .ok (.iload_n 1, 1) := by decide +kernel
theorem dX10_doStep_29 : decode cX10_doStep 29 = .ok (.invokevirtual 277, 3) := by decide +kernel
theorem dX10_doStep_32 : decode cX10_doStep 32 = .ok (.return_, 1) := by decide +kernel
theorem dX10_doStep_33 : decode cX10_doStep 33 = .ok (.iload_n 1, 1) := by decide +kernel
theorem dX10_doStep_34 : decode cX10_doStep 34 = .ok (.bipush 20, 2) := by decide +kernel
theorem dX10_doStep_36 : decode cX10_doStep 36 = .ok (.if_icmp .ne 54, 3) := by decide +kernel
theorem dX10_doStep_39 : decode cX10_doStep 39 = .ok (.aload_n 0, 1) := by decide +kernel
theorem dX10_doStep_40 : decode cX10_doStep 40 = .ok (.getfield 29, 3) := by decide +kernel
theorem dX10_doStep_43 : decode cX10_doStep 43 = .ok (.bipush 22, 2) := by decide +kernel
theorem dX10_doStep_45 : decode cX10_doStep 45 = .ok (.aload_n 0, 1) := by decide +kernel
theorem dX10_doStep_46 : decode cX10_doStep 46 = .ok (.getfield 29, 3) := by decide +kernel
theorem dX10_doStep_49 : decode cX10_doStep 49 = .ok (.iconst 4, 1) := by decide +kernel
theorem dX10_doStep_50 : decode cX10_doStep 50 = .ok (.iaload, 1) := by decide +kernel
theorem dX10_doStep_51 : decode cX10_doStep 51 = .ok (.iadd, 1) := by decide +kernel
theorem dX10_doStep_52 : decode cX10_doStep 52 = .ok (.aload_n 0, 1) := by decide +kernel
theorem dX10_doStep_53 : decode cX10_doStep 53 = .ok (.aload_n 0, 1) := by decide +kernel
theorem dX10_doStep_54 : decode cX10_doStep 54 = .ok (.getfield 29, 3) := by decide +kernel
theorem dX10_doStep_57 : decode cX10_doStep 57 = .ok (.bipush 82, 2) := by decide +kernel
theorem dX10_doStep_59 : decode cX10_doStep 59 = .ok (.iaload, 1) := by decide +kernel
theorem dX10_doStep_60 : decode cX10_doStep 60 = .ok (.aload_n 0, 1) := by decide +kernel
theorem dX10_doStep_61 : decode cX10_doStep 61 = .ok (.getfield 29, 3) := by decide +kernel
theorem dX10_doStep_64 : decode cX10_doStep 64 = .ok (.bipush 83, 2) := by decide +kernel
theorem dX10_doStep_66 : decode cX10_doStep 66 = .ok (.iaload, 1) := by decide +kernel
theorem dX10_doStep_67 : decode cX10_doStep 67 = .ok (.aload_n 0, 1) := by decide +kernel
theorem dX10_doStep_68 : decode cX10_doStep 68 = .ok (.getfield 29, 3) := by decide +kernel
theorem dX10_doStep_71 : decode cX10_doStep 71 = .ok (.iconst 2, 1) := by decide +kernel
theorem dX10_doStep_72 : decode cX10_doStep 72 = .ok (.iaload, 1) := by decide +kernel
theorem dX10_doStep_73 : decode cX10_doStep 73 = .ok (.invokevirtual 212, 3) := by decide +kernel
theorem dX10_doStep_76 : decode cX10_doStep 76 = .ok (.iastore, 1) := by decide +kernel
theorem dX10_doStep_77 : decode cX10_doStep 77 = .ok (.aload_n 0, 1) := by decide +kernel
theorem dX10_doStep_78 : decode cX10_doStep 78 = .ok (.getfield 29, 3) := by decide +kernel
theorem dX10_doStep_81 : decode cX10_doStep 81 = .ok (.iconst 4, 1) := by decide +kernel
theorem dX10_doStep_82 : decode cX10_doStep 82 = .ok (.dup2, 1) := by decide +kernel
theorem dX10_doStep_83 : decode cX10_doStep 83 = .ok (.iaload, 1) := by decide +kernel
theorem dX10_doStep_84 : decode cX10_doStep 84 = .ok (.iconst 1, 1) := by decide +kernel
theorem dX10_doStep_85 : decode cX10_doStep 85 = .ok (.iadd, 1) := by decide +kernel
theorem dX10_doStep_86 : decode cX10_doStep 86 = .ok (.iastore, 1) := by decide +kernel
theorem dX10_doStep_87 : decode cX10_doStep 87 = .ok (.goto 54, 3) := by decide +kernel
theorem dX10_doStep_90 : decode cX10_doStep 90 = .ok (.iload_n 1, 1) := by decide +kernel
theorem dX10_doStep_91 : decode cX10_doStep 91 = .ok (.bipush 24, 2) := by decide +kernel
theorem dX10_doStep_93 : decode cX10_doStep 93 = .ok (.if_icmp .ne 13, 3) := by decide +kernel
theorem dX10_doStep_96 : decode cX10_doStep 96 = .ok (.aload_n 0, 1) := by decide +kernel
theorem dX10_doStep_97 : decode cX10_doStep 97 = .ok (.getfield 29, 3) := by decide +kernel
theorem dX10_doStep_100 : decode cX10_doStep 100 = .ok (.iconst 5, 1) := by decide +kernel
theorem dX10_doStep_101 : decode cX10_doStep 101 = .ok (.iconst 1, 1) := by decide +kernel
theorem dX10_doStep_102 : decode cX10_doStep 102 = .ok (.iastore, 1) := by decide +kernel
theorem dX10_doStep_103 : decode cX10_doStep 103 = .ok (.goto 38, 3) := by decide +kernel
theorem dX10_doStep_106 : decode cX10_doStep 106 = .ok (.iload_n 1, 1) := by decide +kernel
theorem dX10_doStep_107 : decode cX10_doStep 107 = .ok (.bipush 21, 2) := by decide +kernel
theorem dX10_doStep_109 : decode cX10_doStep 109 = .ok (.if_icmp .lt 19, 3) := by decide +kernel
theorem dX10_doStep_112 : decode cX10_doStep 112 = .ok (.aload_n 0, 1) := by decide +kernel
theorem dX10_doStep_113 : decode cX10_doStep 113 = .ok (.getfield 29, 3) := by decide +kernel
theorem dX10_doStep_116 : decode cX10_doStep 116 = .ok (.iload_n 1, 1) := by decide +kernel
theorem dX10_doStep_117 : decode cX10_doStep 117 = .ok (.invokestatic 234, 3) := by decide +kernel
theorem dX10_doStep_120 : decode cX10_doStep 120 = .ok (.dup2, 1) := by decide +kernel
theorem dX10_doStep_121 : decode cX10_doStep 121 = .ok (.iaload, 1) := by decide +kernel
theorem dX10_doStep_122 : decode cX10_doStep 122 = .ok (.iconst 1, 1) := by decide +kernel
theorem dX10_doStep_123 : decode cX10_doStep 123 = .ok (.iadd, 1) := by decide +kernel
theorem dX10_doStep_124 : decode cX10_doStep 124 = .ok (.iastore, 1) := by decide +kernel
theorem dX10_doStep_125 : decode cX10_doStep 125 = .ok (.goto 16, 3) := by decide +kernel
theorem dX10_doStep_128 : decode cX10_doStep 128 = .ok (.aload_n 0, 1) := by decide +kernel
theorem dX10_doStep_129 : decode cX10_doStep 129 = .ok (.getfield 29, 3) := by decide +kernel
theorem dX10_doStep_132 : decode cX10_doStep 132 = .ok (.bipush 14, 2) := by decide +kernel
theorem dX10_doStep_134 : decode cX10_doStep 134 = .ok (.iload_n 1, 1) := by decide +kernel
theorem dX10_doStep_135 : decode cX10_doStep 135 = .ok (.iadd, 1) := by decide +kernel
theorem dX10_doStep_136 : decode cX10_doStep 136 = .ok (.dup2, 1) := by decide +kernel
theorem dX10_doStep_137 : decode cX10_doStep 137 = .ok (.iaload, 1) := by decide +kernel
theorem dX10_doStep_138 : decode cX10_doStep 138 = .ok (.iconst 1, 1) := by decide +kernel
theorem dX10_doStep_139 : decode cX10_doStep 139 = .ok (.iadd, 1) := by decide +kernel
theorem dX10_doStep_140 : decode cX10_doStep 140 = .ok (.iastore, 1) := by decide +kernel
theorem dX10_doStep_141 : decode cX10_doStep 141 = .ok (.aload_n 0, 1) := by decide +kernel
theorem dX10_doStep_142 : decode cX10_doStep 142 = .ok (.invokevirtual 280, 3) := by decide +kernel
theorem dX10_doStep_145 : decode cX10_doStep 145 = .ok (.aload_n 0, 1) := by decide +kernel
theorem dX10_doStep_146 : decode cX10_doStep 146 = .ok (.iload_n 1, 1) := by decide +kernel
theorem dX10_doStep_147 : decode cX10_doStep 147 = .ok (.invokevirtual 277, 3) := by decide +kernel
theorem dX10_doStep_150 : decode cX10_doStep 150 = .ok (.return_, 1) := by decide +kernel
def fn_X10_doStep_141 (N : Nat) (M : Mem) (a0 : Nat) (x1 : Int32) : Option (Unit × Mem) :=
  (mm_ck M a0 10).bind fun _ => mm_b2 (fn_X10_takeFromHopper N M a0) fun _ M1 =>
  (mm_ck M1 a0 10).bind fun _ => mm_b2 (fn_X10_note N M1 a0 x1) fun _ M2 =>
  some ((), M2)
set_option maxRecDepth 100000 in
set_option maxHeartbeats 4000000 in
theorem bk_X10_doStep_141 {Γ : Gm} {ω : Wd} {k N : Nat} {r : Unit} {M' : Mem} (C : Cx Γ cX10_doStep 3 RX10 ω 4 0 0) (hr : Γ.meth.sig.returnType = none) (M : Mem) (a0 : Nat) (x1 : Int32) (h : fn_X10_doStep_141 N M a0 x1 = some (r, M')) : JJ Γ (QF Γ ω k 0 0 none M') 3 ω k M 0 0 141 [(0, .ref a0), (1, .int x1)] [] := by
  unfold fn_X10_doStep_141 at h
  refine jv_aload_n C dX10_doStep_141 rfl 0 rfl ?_
  refine jv_vV0 (As := []) C lk_X10_280 rfl dX10_doStep_142 rfl rfl (by decide) (by decide) (by decide) (Nat.le_of_ble_eq_true rfl) h (fun _ _ h => ct_X10_takeFromHopper h) (fun _ M1 h => ?_)
  refine jv_aload_n C dX10_doStep_145 rfl 0 rfl ?_
  refine jv_iload_n C dX10_doStep_146 rfl 1 rfl ?_
  refine jv_vV0 (As := [.int x1]) C lk_X10_277 rfl dX10_doStep_147 rfl rfl (by decide) (by decide) (by decide) (Nat.le_of_ble_eq_true rfl) h (fun _ _ h => ct_X10_note h) (fun _ M2 h => ?_)
  exact jv_vret C hr dX10_doStep_150 h
def fn_X10_doStep (N : Nat) (M : Mem) (a0 : Nat) (x1 : Int32) : Option (Unit × Mem) :=
  (mm_ck M a0 10).bind fun _ => mm_b2 (fn_X10_movable N M a0) fun v2 M1 =>
  if v2 < 0 then
    if x1 = 20 then
      (mm_gR M1 a0 10 16).bind fun b13 =>
      (mm_gR M1 a0 10 16).bind fun b14 =>
      (mm_aI M1 b14 0 4).bind fun v15 =>
      (mm_gR M1 a0 10 16).bind fun b16 =>
      (mm_aI M1 b16 0 82).bind fun v17 =>
      (mm_gR M1 a0 10 16).bind fun b18 =>
      (mm_aI M1 b18 0 83).bind fun v19 =>
      (mm_gR M1 a0 10 16).bind fun b20 =>
      (mm_aI M1 b20 0 2).bind fun v21 =>
      (mm_ck M1 a0 10).bind fun _ => mm_b2 (fn_X10_verdict N M1 a0 v17 v19 v21) fun v23 M22 =>
      (mm_sI M22 b13 0 (22 + v15) v23).bind fun M24 =>
      (mm_gR M24 a0 10 16).bind fun b25 =>
      (mm_aI M24 b25 0 4).bind fun v26 =>
      (mm_sI M24 b25 0 4 (v26 + 1)).bind fun M27 =>
      fn_X10_doStep_141 N M27 a0 x1
    else
      if x1 = 24 then
        (mm_gR M1 a0 10 16).bind fun b11 =>
        (mm_sI M1 b11 0 5 1).bind fun M12 =>
        fn_X10_doStep_141 N M12 a0 x1
      else
        if x1 < 21 then
          (mm_gR M1 a0 10 16).bind fun b3 =>
          (mm_aI M1 b3 0 (14 + x1)).bind fun v4 =>
          (mm_sI M1 b3 0 (14 + x1) (v4 + 1)).bind fun M5 =>
          fn_X10_doStep_141 N M5 a0 x1
        else
          (mm_gR M1 a0 10 16).bind fun b6 =>
          mm_b2 (fn_X10_rejectPlace N M1 x1) fun v8 M7 =>
          (mm_aI M7 b6 0 v8).bind fun v9 =>
          (mm_sI M7 b6 0 v8 (v9 + 1)).bind fun M10 =>
          fn_X10_doStep_141 N M10 a0 x1
  else
    (mm_ck M1 a0 10).bind fun _ => mm_b2 (fn_X10_takeFromLoop N M1 a0 v2) fun _ M28 =>
    (mm_gR M28 a0 10 16).bind fun b29 =>
    (mm_aI M28 b29 0 (14 + x1)).bind fun v30 =>
    (mm_sI M28 b29 0 (14 + x1) (v30 + 1)).bind fun M31 =>
    (mm_ck M31 a0 10).bind fun _ => mm_b2 (fn_X10_note N M31 a0 x1) fun _ M32 =>
    some ((), M32)
set_option maxRecDepth 100000 in
set_option maxHeartbeats 4000000 in
theorem ct_X10_doStep {l : Launch} {ω : Wd} {k N : Nat} {M : Mem} {a0 : Nat} {x1 : Int32} {r : Unit} {M' : Mem} (h : fn_X10_doStep N M a0 x1 = some (r, M')) : CM l ω k yX10_doStep cX10_doStep 3 none 4 0 0 [.ref a0, .int x1] M none M' := by
  refine CM.of (by decide) (Nat.le_of_ble_eq_true rfl) fun Γ hl C hr hi => ?_
  subst hl
  unfold fn_X10_doStep at h
  refine jv_aload_n C dX10_doStep_0 rfl 0 rfl ?_
  refine jv_vI0 (As := []) C lk_X10_221 rfl dX10_doStep_1 rfl rfl (by decide) (by decide) (by decide) (Nat.le_of_ble_eq_true rfl) h (fun _ _ h => ct_X10_movable h) (fun v2 M1 h => ?_)
  refine jv_istore_n (lv' := [(2, .int v2), (0, .ref a0), (1, .int x1)]) C dX10_doStep_4 rfl (by decide) rfl ?_
  refine jv_iload_n C dX10_doStep_5 rfl 0 rfl ?_
  refine jv_if_lt (tgt := 33) C dX10_doStep_6 (by decide) h (fun h => ?_) (fun h => ?_)
  · refine jv_iload_n C dX10_doStep_33 rfl 2 rfl ?_
    refine jv_bipush (v := 20) C dX10_doStep_34 (by decide) ?_
    refine jv_icmp_ne (tgt := 90) C dX10_doStep_36 (by decide) h (fun h => ?_) (fun h => ?_)
    · refine jv_iload_n C dX10_doStep_90 rfl 2 rfl ?_
      refine jv_bipush (v := 24) C dX10_doStep_91 (by decide) ?_
      refine jv_icmp_ne (tgt := 106) C dX10_doStep_93 (by decide) h (fun h => ?_) (fun h => ?_)
      · refine jv_iload_n C dX10_doStep_106 rfl 2 rfl ?_
        refine jv_bipush (v := 21) C dX10_doStep_107 (by decide) ?_
        refine jv_icmp_lt (tgt := 128) C dX10_doStep_109 (by decide) h (fun h => ?_) (fun h => ?_)
        · refine jv_aload_n C dX10_doStep_128 rfl 1 rfl ?_
          refine jv_getR C fa_X10_29 dX10_doStep_129 h (fun b3 h => ?_)
          refine jv_bipush (v := 14) C dX10_doStep_132 (by decide) ?_
          refine jv_iload_n C dX10_doStep_134 rfl 2 rfl ?_
          refine jv_iadd C dX10_doStep_135 ?_
          refine jv_dup2 C dX10_doStep_136 rfl rfl ?_
          refine jv_iald C dX10_doStep_137 h (fun v4 h => ?_)
          refine jv_iconst (v := 1) C dX10_doStep_138 (by decide) ?_
          refine jv_iadd C dX10_doStep_139 ?_
          refine jv_iast C dX10_doStep_140 h (fun M5 h => ?_)
          refine jv_sub [1, 2] rfl ?_
          exact bk_X10_doStep_141 C hr _ _ _ h
        · refine jv_aload_n C dX10_doStep_112 rfl 1 rfl ?_
          refine jv_getR C fa_X10_29 dX10_doStep_113 h (fun b6 h => ?_)
          refine jv_iload_n C dX10_doStep_116 rfl 2 rfl ?_
          refine jv_sI0 (As := [.int x1]) C lk_X10_234 dX10_doStep_117 rfl rfl (by decide) (by decide) (by decide) (Nat.le_of_ble_eq_true rfl) h (fun _ _ h => ct_X10_rejectPlace h) (fun v8 M7 h => ?_)
          refine jv_dup2 C dX10_doStep_120 rfl rfl ?_
          refine jv_iald C dX10_doStep_121 h (fun v9 h => ?_)
          refine jv_iconst (v := 1) C dX10_doStep_122 (by decide) ?_
          refine jv_iadd C dX10_doStep_123 ?_
          refine jv_iast C dX10_doStep_124 h (fun M10 h => ?_)
          refine jv_goto (tgt := 141) C dX10_doStep_125 (by decide) ?_
          refine jv_sub [1, 2] rfl ?_
          exact bk_X10_doStep_141 C hr _ _ _ h
      · refine jv_aload_n C dX10_doStep_96 rfl 1 rfl ?_
        refine jv_getR C fa_X10_29 dX10_doStep_97 h (fun b11 h => ?_)
        refine jv_iconst (v := 5) C dX10_doStep_100 (by decide) ?_
        refine jv_iconst (v := 1) C dX10_doStep_101 (by decide) ?_
        refine jv_iast C dX10_doStep_102 h (fun M12 h => ?_)
        refine jv_goto (tgt := 141) C dX10_doStep_103 (by decide) ?_
        refine jv_sub [1, 2] rfl ?_
        exact bk_X10_doStep_141 C hr _ _ _ h
    · refine jv_aload_n C dX10_doStep_39 rfl 1 rfl ?_
      refine jv_getR C fa_X10_29 dX10_doStep_40 h (fun b13 h => ?_)
      refine jv_bipush (v := 22) C dX10_doStep_43 (by decide) ?_
      refine jv_aload_n C dX10_doStep_45 rfl 1 rfl ?_
      refine jv_getR C fa_X10_29 dX10_doStep_46 h (fun b14 h => ?_)
      refine jv_iconst (v := 4) C dX10_doStep_49 (by decide) ?_
      refine jv_iald C dX10_doStep_50 h (fun v15 h => ?_)
      refine jv_iadd C dX10_doStep_51 ?_
      refine jv_aload_n C dX10_doStep_52 rfl 1 rfl ?_
      refine jv_aload_n C dX10_doStep_53 rfl 1 rfl ?_
      refine jv_getR C fa_X10_29 dX10_doStep_54 h (fun b16 h => ?_)
      refine jv_bipush (v := 82) C dX10_doStep_57 (by decide) ?_
      refine jv_iald C dX10_doStep_59 h (fun v17 h => ?_)
      refine jv_aload_n C dX10_doStep_60 rfl 1 rfl ?_
      refine jv_getR C fa_X10_29 dX10_doStep_61 h (fun b18 h => ?_)
      refine jv_bipush (v := 83) C dX10_doStep_64 (by decide) ?_
      refine jv_iald C dX10_doStep_66 h (fun v19 h => ?_)
      refine jv_aload_n C dX10_doStep_67 rfl 1 rfl ?_
      refine jv_getR C fa_X10_29 dX10_doStep_68 h (fun b20 h => ?_)
      refine jv_iconst (v := 2) C dX10_doStep_71 (by decide) ?_
      refine jv_iald C dX10_doStep_72 h (fun v21 h => ?_)
      refine jv_vI0 (As := [.int v17, .int v19, .int v21]) C lk_X10_212 rfl dX10_doStep_73 rfl rfl (by decide) (by decide) (by decide) (Nat.le_of_ble_eq_true rfl) h (fun _ _ h => ct_X10_verdict h) (fun v23 M22 h => ?_)
      refine jv_iast C dX10_doStep_76 h (fun M24 h => ?_)
      refine jv_aload_n C dX10_doStep_77 rfl 1 rfl ?_
      refine jv_getR C fa_X10_29 dX10_doStep_78 h (fun b25 h => ?_)
      refine jv_iconst (v := 4) C dX10_doStep_81 (by decide) ?_
      refine jv_dup2 C dX10_doStep_82 rfl rfl ?_
      refine jv_iald C dX10_doStep_83 h (fun v26 h => ?_)
      refine jv_iconst (v := 1) C dX10_doStep_84 (by decide) ?_
      refine jv_iadd C dX10_doStep_85 ?_
      refine jv_iast C dX10_doStep_86 h (fun M27 h => ?_)
      refine jv_goto (tgt := 141) C dX10_doStep_87 (by decide) ?_
      refine jv_sub [1, 2] rfl ?_
      exact bk_X10_doStep_141 C hr _ _ _ h
  · refine jv_aload_n C dX10_doStep_9 rfl 1 rfl ?_
    refine jv_iload_n C dX10_doStep_10 rfl 0 rfl ?_
    refine jv_vV0 (As := [.int v2]) C lk_X10_274 rfl dX10_doStep_11 rfl rfl (by decide) (by decide) (by decide) (Nat.le_of_ble_eq_true rfl) h (fun _ _ h => ct_X10_takeFromLoop h) (fun _ M28 h => ?_)
    refine jv_aload_n C dX10_doStep_14 rfl 1 rfl ?_
    refine jv_getR C fa_X10_29 dX10_doStep_15 h (fun b29 h => ?_)
    refine jv_bipush (v := 14) C dX10_doStep_18 (by decide) ?_
    refine jv_iload_n C dX10_doStep_20 rfl 2 rfl ?_
    refine jv_iadd C dX10_doStep_21 ?_
    refine jv_dup2 C dX10_doStep_22 rfl rfl ?_
    refine jv_iald C dX10_doStep_23 h (fun v30 h => ?_)
    refine jv_iconst (v := 1) C dX10_doStep_24 (by decide) ?_
    refine jv_iadd C dX10_doStep_25 ?_
    refine jv_iast C dX10_doStep_26 h (fun M31 h => ?_)
    refine jv_aload_n C dX10_doStep_27 rfl 1 rfl ?_
    refine jv_iload_n C dX10_doStep_28 rfl 2 rfl ?_
    refine jv_vV0 (As := [.int x1]) C lk_X10_277 rfl dX10_doStep_29 rfl rfl (by decide) (by decide) (by decide) (Nat.le_of_ble_eq_true rfl) h (fun _ _ h => ct_X10_note h) (fun _ M32 h => ?_)
    exact jv_vret C hr dX10_doStep_32 h
theorem dX10_fakeCount_0 : decode cX10_fakeCount 0 = .ok (.aload_n 0, 1) := by decide +kernel
theorem dX10_fakeCount_1 : decode cX10_fakeCount 1 = .ok (.aload_n 0, 1) := by decide +kernel
theorem dX10_fakeCount_2 : decode cX10_fakeCount 2 = .ok (.getfield 13, 3) := by decide +kernel
theorem dX10_fakeCount_5 : decode cX10_fakeCount 5 = .ok (.iconst 1, 1) := by decide +kernel
theorem dX10_fakeCount_6 : decode cX10_fakeCount 6 = .ok (.iaload, 1) := by decide +kernel
theorem dX10_fakeCount_7 : decode cX10_fakeCount 7 = .ok (.invokevirtual 167, 3) := by decide +kernel
theorem dX10_fakeCount_10 : decode cX10_fakeCount 10 = .ok (.ireturn, 1) := by decide +kernel
def fn_X10_fakeCount (N : Nat) (M : Mem) (a0 : Nat) : Option (Int32 × Mem) :=
  (mm_gR M a0 10 10).bind fun b1 =>
  (mm_aI M b1 0 1).bind fun v2 =>
  (mm_ck M a0 10).bind fun _ => mm_b2 (fn_X10_told N M a0 v2) fun v4 M3 =>
  some (v4, M3)
set_option maxRecDepth 100000 in
set_option maxHeartbeats 4000000 in
theorem ct_X10_fakeCount {l : Launch} {ω : Wd} {k N : Nat} {M : Mem} {a0 : Nat} {r : Int32} {M' : Mem} (h : fn_X10_fakeCount N M a0 = some (r, M')) : CM l ω k yX10_fakeCount cX10_fakeCount 1 (some .int) 1 0 0 [.ref a0] M (some (.int r)) M' := by
  refine CM.of (by decide) (Nat.le_of_ble_eq_true rfl) fun Γ hl C hr hi => ?_
  subst hl
  unfold fn_X10_fakeCount at h
  refine jv_aload_n C dX10_fakeCount_0 rfl 0 rfl ?_
  refine jv_aload_n C dX10_fakeCount_1 rfl 0 rfl ?_
  refine jv_getR C fa_X10_13 dX10_fakeCount_2 h (fun b1 h => ?_)
  refine jv_iconst (v := 1) C dX10_fakeCount_5 (by decide) ?_
  refine jv_iald C dX10_fakeCount_6 h (fun v2 h => ?_)
  refine jv_vI0 (As := [.int v2]) C lk_X10_167 rfl dX10_fakeCount_7 rfl rfl (by decide) (by decide) (by decide) (Nat.le_of_ble_eq_true rfl) h (fun _ _ h => ct_X10_told h) (fun v4 M3 h => ?_)
  exact jv_iret C hr dX10_fakeCount_10 h
theorem dX10_hasBin_0 : decode cX10_hasBin 0 = .ok (.iconst 0, 1) := by decide +kernel
theorem dX10_hasBin_1 : decode cX10_hasBin 1 = .ok (.istore_n 2, 1) := by decide +kernel
theorem dX10_hasBin_2 : decode cX10_hasBin 2 = .ok (.iload_n 2, 1) := by decide +kernel
theorem dX10_hasBin_3 : decode cX10_hasBin 3 = .ok (.aload_n 0, 1) := by decide +kernel
theorem dX10_hasBin_4 : decode cX10_hasBin 4 = .ok (.getfield 13, 3) := by decide +kernel
theorem dX10_hasBin_7 : decode cX10_hasBin 7 = .ok (.iconst 2, 1) := by decide +kernel
theorem dX10_hasBin_8 : decode cX10_hasBin 8 = .ok (.iaload, 1) := by decide +kernel
theorem dX10_hasBin_9 : decode cX10_hasBin 9 = .ok (.if_icmp .ge 21, 3) := by decide +kernel
theorem dX10_hasBin_12 : decode cX10_hasBin 12 = .ok (.aload_n 0, 1) := by decide +kernel
theorem dX10_hasBin_13 : decode cX10_hasBin 13 = .ok (.getfield 23, 3) := by decide +kernel
theorem dX10_hasBin_16 : decode cX10_hasBin 16 = .ok (.iload_n 2, 1) := by decide +kernel
theorem dX10_hasBin_17 : decode cX10_hasBin 17 = .ok (.iaload, 1) := by decide +kernel
theorem dX10_hasBin_18 : decode cX10_hasBin 18 = .ok (.iload_n 1, 1) := by decide +kernel
theorem dX10_hasBin_19 : decode cX10_hasBin 19 = .ok (.if_icmp .ne 5, 3) := by decide +kernel
theorem dX10_hasBin_22 : decode cX10_hasBin 22 = .ok (.iconst 1, 1) := by decide +kernel
theorem dX10_hasBin_23 : decode cX10_hasBin 23 = .ok (.ireturn, 1) := by decide +kernel
theorem dX10_hasBin_24 : decode cX10_hasBin 24 = .ok (.iinc 2 1, 3) := by decide +kernel
theorem dX10_hasBin_27 : decode cX10_hasBin 27 = .ok (.goto (-25), 3) := by decide +kernel
theorem dX10_hasBin_30 : decode cX10_hasBin 30 = .ok (.iconst 0, 1) := by decide +kernel
theorem dX10_hasBin_31 : decode cX10_hasBin 31 = .ok (.ireturn, 1) := by decide +kernel
def fn_X10_hasBin_2 (N : Nat) : Nat → Mem → Nat → Int32 → Int32 → Option (Int32 × Mem)
  | 0, _, _, _, _ => none
  | n + 1, M, a0, x1, x2 =>
    (mm_gR M a0 10 10).bind fun b1 =>
    (mm_aI M b1 0 2).bind fun v2 =>
    if v2 ≤ x2 then
      some (0, M)
    else
      (mm_gR M a0 10 13).bind fun b3 =>
      (mm_aI M b3 0 x2).bind fun v4 =>
      if v4 = x1 then
        some (1, M)
      else
        fn_X10_hasBin_2 N n M a0 x1 ((x2 + 1))
set_option maxRecDepth 100000 in
set_option maxHeartbeats 4000000 in
theorem bk_X10_hasBin_2 {Γ : Gm} {ω : Wd} {k N : Nat} {r : Int32} {M' : Mem} (C : Cx Γ cX10_hasBin 3 RX10 ω 0 0 0) (hr : Γ.meth.sig.returnType = (some .boolean)) : ∀ (n : Nat) (M : Mem) (a0 : Nat) (x1 : Int32) (x2 : Int32), fn_X10_hasBin_2 N n M a0 x1 x2 = some (r, M') → JJ Γ (QF Γ ω k 0 0 (some (.int r)) M') 3 ω k M 0 0 2 [(0, .ref a0), (1, .int x1), (2, .int x2)] [] := by
  intro n
  induction n with
  | zero => intro M a0 x1 x2 h; exact jv_no h
  | succ n ih =>
    intro M a0 x1 x2 h
    rw [fn_X10_hasBin_2.eq_2] at h
    refine jv_iload_n C dX10_hasBin_2 rfl 2 rfl ?_
    refine jv_aload_n C dX10_hasBin_3 rfl 0 rfl ?_
    refine jv_getR C fa_X10_13 dX10_hasBin_4 h (fun b1 h => ?_)
    refine jv_iconst (v := 2) C dX10_hasBin_7 (by decide) ?_
    refine jv_iald C dX10_hasBin_8 h (fun v2 h => ?_)
    refine jv_icmp_ge (tgt := 30) C dX10_hasBin_9 (by decide) h (fun h => ?_) (fun h => ?_)
    · refine jv_iconst (v := 0) C dX10_hasBin_30 (by decide) ?_
      exact jv_zretc C hr (Or.inl rfl) dX10_hasBin_31 h
    · refine jv_aload_n C dX10_hasBin_12 rfl 0 rfl ?_
      refine jv_getR C fa_X10_23 dX10_hasBin_13 h (fun b3 h => ?_)
      refine jv_iload_n C dX10_hasBin_16 rfl 2 rfl ?_
      refine jv_iald C dX10_hasBin_17 h (fun v4 h => ?_)
      refine jv_iload_n C dX10_hasBin_18 rfl 1 rfl ?_
      refine jv_icmp_ne (tgt := 24) C dX10_hasBin_19 (by decide) h (fun h => ?_) (fun h => ?_)
      · refine jv_iinc (v := 1) (lv' := [(2, .int (x2 + 1)), (0, .ref a0), (1, .int x1)]) C dX10_hasBin_24 2 rfl (by decide) (by decide) rfl ?_
        refine jv_goto (tgt := 2) C dX10_hasBin_27 (by decide) ?_
        refine jv_sub [1, 2, 0] rfl ?_
        exact ih _ _ _ _ h
      · refine jv_iconst (v := 1) C dX10_hasBin_22 (by decide) ?_
        exact jv_zretc C hr (Or.inr rfl) dX10_hasBin_23 h
def fn_X10_hasBin (N : Nat) (M : Mem) (a0 : Nat) (x1 : Int32) : Option (Int32 × Mem) :=
  fn_X10_hasBin_2 N N M a0 x1 0
set_option maxRecDepth 100000 in
set_option maxHeartbeats 4000000 in
theorem ct_X10_hasBin {l : Launch} {ω : Wd} {k N : Nat} {M : Mem} {a0 : Nat} {x1 : Int32} {r : Int32} {M' : Mem} (h : fn_X10_hasBin N M a0 x1 = some (r, M')) : CM l ω k yX10_hasBin cX10_hasBin 3 (some .boolean) 0 0 0 [.ref a0, .int x1] M (some (.int r)) M' := by
  refine CM.of (by decide) (Nat.le_of_ble_eq_true rfl) fun Γ hl C hr hi => ?_
  subst hl
  unfold fn_X10_hasBin at h
  refine jv_iconst (v := 0) C dX10_hasBin_0 (by decide) ?_
  refine jv_istore_n (lv' := [(2, .int 0), (0, .ref a0), (1, .int x1)]) C dX10_hasBin_1 rfl (by decide) rfl ?_
  refine jv_sub [1, 2, 0] rfl ?_
  exact bk_X10_hasBin_2 C hr _ _ _ _ _ h
theorem dX10_hopperSize_0 : decode cX10_hopperSize 0 = .ok (.aload_n 0, 1) := by decide +kernel
theorem dX10_hopperSize_1 : decode cX10_hopperSize 1 = .ok (.aload_n 0, 1) := by decide +kernel
theorem dX10_hopperSize_2 : decode cX10_hopperSize 2 = .ok (.getfield 29, 3) := by decide +kernel
theorem dX10_hopperSize_5 : decode cX10_hopperSize 5 = .ok (.iconst 3, 1) := by decide +kernel
theorem dX10_hopperSize_6 : decode cX10_hopperSize 6 = .ok (.iaload, 1) := by decide +kernel
theorem dX10_hopperSize_7 : decode cX10_hopperSize 7 = .ok (.invokevirtual 167, 3) := by decide +kernel
theorem dX10_hopperSize_10 : decode cX10_hopperSize 10 = .ok (.ireturn, 1) := by decide +kernel
def fn_X10_hopperSize (N : Nat) (M : Mem) (a0 : Nat) : Option (Int32 × Mem) :=
  (mm_gR M a0 10 16).bind fun b1 =>
  (mm_aI M b1 0 3).bind fun v2 =>
  (mm_ck M a0 10).bind fun _ => mm_b2 (fn_X10_told N M a0 v2) fun v4 M3 =>
  some (v4, M3)
set_option maxRecDepth 100000 in
set_option maxHeartbeats 4000000 in
theorem ct_X10_hopperSize {l : Launch} {ω : Wd} {k N : Nat} {M : Mem} {a0 : Nat} {r : Int32} {M' : Mem} (h : fn_X10_hopperSize N M a0 = some (r, M')) : CM l ω k yX10_hopperSize cX10_hopperSize 1 (some .int) 1 0 0 [.ref a0] M (some (.int r)) M' := by
  refine CM.of (by decide) (Nat.le_of_ble_eq_true rfl) fun Γ hl C hr hi => ?_
  subst hl
  unfold fn_X10_hopperSize at h
  refine jv_aload_n C dX10_hopperSize_0 rfl 0 rfl ?_
  refine jv_aload_n C dX10_hopperSize_1 rfl 0 rfl ?_
  refine jv_getR C fa_X10_29 dX10_hopperSize_2 h (fun b1 h => ?_)
  refine jv_iconst (v := 3) C dX10_hopperSize_5 (by decide) ?_
  refine jv_iald C dX10_hopperSize_6 h (fun v2 h => ?_)
  refine jv_vI0 (As := [.int v2]) C lk_X10_167 rfl dX10_hopperSize_7 rfl rfl (by decide) (by decide) (by decide) (Nat.le_of_ble_eq_true rfl) h (fun _ _ h => ct_X10_told h) (fun v4 M3 h => ?_)
  exact jv_iret C hr dX10_hopperSize_10 h
theorem dX10_init_0 : decode cX10_init 0 = .ok (.aload_n 0, 1) := by decide +kernel
theorem dX10_init_1 : decode cX10_init 1 = .ok (.invokespecial 1, 3) := by decide +kernel
theorem dX10_init_4 : decode cX10_init 4 = .ok (.aload_n 0, 1) := by decide +kernel
theorem dX10_init_5 : decode cX10_init 5 = .ok (.sipush 800, 3) := by decide +kernel
theorem dX10_init_8 : decode cX10_init 8 = .ok (.newarray .byte, 2) := by decide +kernel
theorem dX10_init_10 : decode cX10_init 10 = .ok (.putfield 7, 3) := by decide +kernel
theorem dX10_init_13 : decode cX10_init 13 = .ok (.aload_n 0, 1) := by decide +kernel
theorem dX10_init_14 : decode cX10_init 14 = .ok (.bipush 6, 2) := by decide +kernel
theorem dX10_init_16 : decode cX10_init 16 = .ok (.newarray .int, 2) := by decide +kernel
theorem dX10_init_18 : decode cX10_init 18 = .ok (.dup, 1) := by decide +kernel
theorem dX10_init_19 : decode cX10_init 19 = .ok (.iconst 0, 1) := by decide +kernel
theorem dX10_init_20 : decode cX10_init 20 = .ok (.iconst 0, 1) := by decide +kernel
theorem dX10_init_21 : decode cX10_init 21 = .ok (.iastore, 1) := by decide +kernel
theorem dX10_init_22 : decode cX10_init 22 = .ok (.dup, 1) := by decide +kernel
theorem dX10_init_23 : decode cX10_init 23 = .ok (.iconst 1, 1) := by decide +kernel
theorem dX10_init_24 : decode cX10_init 24 = .ok (.iconst 0, 1) := by decide +kernel
theorem dX10_init_25 : decode cX10_init 25 = .ok (.iastore, 1) := by decide +kernel
theorem dX10_init_26 : decode cX10_init 26 = .ok (.dup, 1) := by decide +kernel
theorem dX10_init_27 : decode cX10_init 27 = .ok (.iconst 2, 1) := by decide +kernel
theorem dX10_init_28 : decode cX10_init 28 = .ok (.iconst 0, 1) := by decide +kernel
theorem dX10_init_29 : decode cX10_init 29 = .ok (.iastore, 1) := by decide +kernel
theorem dX10_init_30 : decode cX10_init 30 = .ok (.dup, 1) := by decide +kernel
theorem dX10_init_31 : decode cX10_init 31 = .ok (.iconst 3, 1) := by decide +kernel
theorem dX10_init_32 : decode cX10_init 32 = .ok (.sipush 4000, 3) := by decide +kernel
theorem dX10_init_35 : decode cX10_init 35 = .ok (.iastore, 1) := by decide +kernel
theorem dX10_init_36 : decode cX10_init 36 = .ok (.dup, 1) := by decide +kernel
theorem dX10_init_37 : decode cX10_init 37 = .ok (.iconst 4, 1) := by decide +kernel
theorem dX10_init_38 : decode cX10_init 38 = .ok (.iconst 5, 1) := by decide +kernel
theorem dX10_init_39 : decode cX10_init 39 = .ok (.iastore, 1) := by decide +kernel
theorem dX10_init_40 : decode cX10_init 40 = .ok (.dup, 1) := by decide +kernel
theorem dX10_init_41 : decode cX10_init 41 = .ok (.iconst 5, 1) := by decide +kernel
theorem dX10_init_42 : decode cX10_init 42 = .ok (.bipush 100, 2) := by decide +kernel
theorem dX10_init_44 : decode cX10_init 44 = .ok (.iastore, 1) := by decide +kernel
theorem dX10_init_45 : decode cX10_init 45 = .ok (.putfield 13, 3) := by decide +kernel
theorem dX10_init_48 : decode cX10_init 48 = .ok (.aload_n 0, 1) := by decide +kernel
theorem dX10_init_49 : decode cX10_init 49 = .ok (.bipush 6, 2) := by decide +kernel
theorem dX10_init_51 : decode cX10_init 51 = .ok (.newarray .int, 2) := by decide +kernel
theorem dX10_init_53 : decode cX10_init 53 = .ok (.putfield 17, 3) := by decide +kernel
theorem dX10_init_56 : decode cX10_init 56 = .ok (.aload_n 0, 1) := by decide +kernel
theorem dX10_init_57 : decode cX10_init 57 = .ok (.bipush 120, 2) := by decide +kernel
theorem dX10_init_59 : decode cX10_init 59 = .ok (.newarray .int, 2) := by decide +kernel
theorem dX10_init_61 : decode cX10_init 61 = .ok (.putfield 20, 3) := by decide +kernel
theorem dX10_init_64 : decode cX10_init 64 = .ok (.aload_n 0, 1) := by decide +kernel
theorem dX10_init_65 : decode cX10_init 65 = .ok (.bipush 16, 2) := by decide +kernel
theorem dX10_init_67 : decode cX10_init 67 = .ok (.newarray .int, 2) := by decide +kernel
theorem dX10_init_69 : decode cX10_init 69 = .ok (.putfield 23, 3) := by decide +kernel
theorem dX10_init_72 : decode cX10_init 72 = .ok (.aload_n 0, 1) := by decide +kernel
theorem dX10_init_73 : decode cX10_init 73 = .ok (.bipush 16, 2) := by decide +kernel
theorem dX10_init_75 : decode cX10_init 75 = .ok (.newarray .int, 2) := by decide +kernel
theorem dX10_init_77 : decode cX10_init 77 = .ok (.putfield 26, 3) := by decide +kernel
theorem dX10_init_80 : decode cX10_init 80 = .ok (.aload_n 0, 1) := by decide +kernel
theorem dX10_init_81 : decode cX10_init 81 = .ok (.sipush 412, 3) := by decide +kernel
theorem dX10_init_84 : decode cX10_init 84 = .ok (.newarray .int, 2) := by decide +kernel
theorem dX10_init_86 : decode cX10_init 86 = .ok (.putfield 29, 3) := by decide +kernel
theorem dX10_init_89 : decode cX10_init 89 = .ok (.aload_n 0, 1) := by decide +kernel
theorem dX10_init_90 : decode cX10_init 90 = .ok (.sipush 4944, 3) := by decide +kernel
theorem dX10_init_93 : decode cX10_init 93 = .ok (.newarray .int, 2) := by decide +kernel
theorem dX10_init_95 : decode cX10_init 95 = .ok (.putfield 32, 3) := by decide +kernel
theorem dX10_init_98 : decode cX10_init 98 = .ok (.aload_n 0, 1) := by decide +kernel
theorem dX10_init_99 : decode cX10_init 99 = .ok (.sipush 824, 3) := by decide +kernel
theorem dX10_init_102 : decode cX10_init 102 = .ok (.newarray .int, 2) := by decide +kernel
theorem dX10_init_104 : decode cX10_init 104 = .ok (.putfield 35, 3) := by decide +kernel
theorem dX10_init_107 : decode cX10_init 107 = .ok (.aload_n 0, 1) := by decide +kernel
theorem dX10_init_108 : decode cX10_init 108 = .ok (.iconst 2, 1) := by decide +kernel
theorem dX10_init_109 : decode cX10_init 109 = .ok (.newarray .boolean, 2) := by decide +kernel
theorem dX10_init_111 : decode cX10_init 111 = .ok (.putfield 38, 3) := by decide +kernel
theorem dX10_init_114 : decode cX10_init 114 = .ok (.aload_n 0, 1) := by decide +kernel
theorem dX10_init_115 : decode cX10_init 115 = .ok (.ldc 42, 2) := by decide +kernel
theorem dX10_init_117 : decode cX10_init 117 = .ok (.newarray .int, 2) := by decide +kernel
theorem dX10_init_119 : decode cX10_init 119 = .ok (.putfield 43, 3) := by decide +kernel
theorem dX10_init_122 : decode cX10_init 122 = .ok (.aload_n 0, 1) := by decide +kernel
theorem dX10_init_123 : decode cX10_init 123 = .ok (.bipush 8, 2) := by decide +kernel
theorem dX10_init_125 : decode cX10_init 125 = .ok (.newarray .int, 2) := by decide +kernel
theorem dX10_init_127 : decode cX10_init 127 = .ok (.putfield 46, 3) := by decide +kernel
theorem dX10_init_130 : decode cX10_init 130 = .ok (.aload_n 0, 1) := by decide +kernel
theorem dX10_init_131 : decode cX10_init 131 = .ok (.bipush 8, 2) := by decide +kernel
theorem dX10_init_133 : decode cX10_init 133 = .ok (.newarray .int, 2) := by decide +kernel
theorem dX10_init_135 : decode cX10_init 135 = .ok (.putfield 49, 3) := by decide +kernel
theorem dX10_init_138 : decode cX10_init 138 = .ok (.aload_n 0, 1) := by decide +kernel
theorem dX10_init_139 : decode cX10_init 139 = .ok (.sipush 2002, 3) := by decide +kernel
theorem dX10_init_142 : decode cX10_init 142 = .ok (.newarray .int, 2) := by decide +kernel
theorem dX10_init_144 : decode cX10_init 144 = .ok (.putfield 52, 3) := by decide +kernel
theorem dX10_init_147 : decode cX10_init 147 = .ok (.aload_n 0, 1) := by decide +kernel
theorem dX10_init_148 : decode cX10_init 148 = .ok (.invokevirtual 55, 3) := by decide +kernel
theorem dX10_init_151 : decode cX10_init 151 = .ok (.return_, 1) := by decide +kernel
def fn_X10_init (N : Nat) (M : Mem) (a0 : Nat) : Option (Unit × Mem) :=
  mm_b2 (mm_nA M 800 800 (fun N => .inl (2, N, .inl (fun _ => 0)))) fun b1 M2 =>
  (mm_pV M2 a0 10 1 (.ref b1)).bind fun M3 =>
  mm_b2 (mm_nA M3 6 6 (fun N => .inl (0, N, .inl (fun _ => 0)))) fun b4 M5 =>
  (mm_sI M5 b4 0 0 0).bind fun M6 =>
  (mm_sI M6 b4 0 1 0).bind fun M7 =>
  (mm_sI M7 b4 0 2 0).bind fun M8 =>
  (mm_sI M8 b4 0 3 4000).bind fun M9 =>
  (mm_sI M9 b4 0 4 5).bind fun M10 =>
  (mm_sI M10 b4 0 5 100).bind fun M11 =>
  (mm_pV M11 a0 10 10 (.ref b4)).bind fun M12 =>
  mm_b2 (mm_nA M12 6 6 (fun N => .inl (0, N, .inl (fun _ => 0)))) fun b13 M14 =>
  (mm_pV M14 a0 10 11 (.ref b13)).bind fun M15 =>
  mm_b2 (mm_nA M15 120 120 (fun N => .inl (0, N, .inl (fun _ => 0)))) fun b16 M17 =>
  (mm_pV M17 a0 10 12 (.ref b16)).bind fun M18 =>
  mm_b2 (mm_nA M18 16 16 (fun N => .inl (0, N, .inl (fun _ => 0)))) fun b19 M20 =>
  (mm_pV M20 a0 10 13 (.ref b19)).bind fun M21 =>
  mm_b2 (mm_nA M21 16 16 (fun N => .inl (0, N, .inl (fun _ => 0)))) fun b22 M23 =>
  (mm_pV M23 a0 10 14 (.ref b22)).bind fun M24 =>
  mm_b2 (mm_nA M24 412 412 (fun N => .inl (0, N, .inl (fun _ => 0)))) fun b25 M26 =>
  (mm_pV M26 a0 10 16 (.ref b25)).bind fun M27 =>
  mm_b2 (mm_nA M27 4944 4944 (fun N => .inl (0, N, .inl (fun _ => 0)))) fun b28 M29 =>
  (mm_pV M29 a0 10 17 (.ref b28)).bind fun M30 =>
  mm_b2 (mm_nA M30 824 824 (fun N => .inl (0, N, .inl (fun _ => 0)))) fun b31 M32 =>
  (mm_pV M32 a0 10 19 (.ref b31)).bind fun M33 =>
  mm_b2 (mm_nA M33 2 2 (fun N => .inl (3, N, .inl (fun _ => 0)))) fun b34 M35 =>
  (mm_pV M35 a0 10 20 (.ref b34)).bind fun M36 =>
  mm_b2 (mm_nA M36 45009 45009 (fun N => .inl (0, N, .inl (fun _ => 0)))) fun b37 M38 =>
  (mm_pV M38 a0 10 25 (.ref b37)).bind fun M39 =>
  mm_b2 (mm_nA M39 8 8 (fun N => .inl (0, N, .inl (fun _ => 0)))) fun b40 M41 =>
  (mm_pV M41 a0 10 26 (.ref b40)).bind fun M42 =>
  mm_b2 (mm_nA M42 8 8 (fun N => .inl (0, N, .inl (fun _ => 0)))) fun b43 M44 =>
  (mm_pV M44 a0 10 27 (.ref b43)).bind fun M45 =>
  mm_b2 (mm_nA M45 2002 2002 (fun N => .inl (0, N, .inl (fun _ => 0)))) fun b46 M47 =>
  (mm_pV M47 a0 10 28 (.ref b46)).bind fun M48 =>
  (mm_ck M48 a0 10).bind fun _ => mm_b2 (fn_X10_clearState N M48 a0) fun _ M49 =>
  some ((), M49)
set_option maxRecDepth 100000 in
set_option maxHeartbeats 4000000 in
theorem ct_X10_init {l : Launch} {ω : Wd} {N : Nat} {M : Mem} {a0 : Nat} {r : Unit} {M' : Mem} (h : fn_X10_init N M a0 = some (r, M')) : CM l ω 0 yX10_init cX10_init 1 none 1 14 54173 [.ref a0] M none M' := by
  refine CM.of (by decide) (Nat.le_of_ble_eq_true rfl) fun Γ hl C hr hi => ?_
  subst hl
  unfold fn_X10_init at h
  refine jv_aload_n C dX10_init_0 rfl 0 rfl ?_
  refine jv_objInit C gw_1347 gw_129 gw_130 (Nat.le_of_ble_eq_true rfl) dX10_init_1 ?_
  refine jv_aload_n C dX10_init_4 rfl 0 rfl ?_
  refine jv_sipush (v := 800) C dX10_init_5 (by decide) ?_
  refine jv_newa2 (lim := 800) C gw_166 (by decide) (by decide) (by decide) dX10_init_8 h (fun b1 M2 h => ?_)
  refine jv_putFR C fp_X10_7 hi dX10_init_10 (fun _ => ⟨rfl, rfl⟩) h (fun M3 h => ?_)
  refine jv_aload_n C dX10_init_13 rfl 0 rfl ?_
  refine jv_bipush (v := 6) C dX10_init_14 (by decide) ?_
  refine jv_newa0 (lim := 6) C gw_200 (by decide) (by decide) (by decide) dX10_init_16 h (fun b4 M5 h => ?_)
  refine jv_dup C dX10_init_18 rfl ?_
  refine jv_iconst (v := 0) C dX10_init_19 (by decide) ?_
  refine jv_iconst (v := 0) C dX10_init_20 (by decide) ?_
  refine jv_iast C dX10_init_21 h (fun M6 h => ?_)
  refine jv_dup C dX10_init_22 rfl ?_
  refine jv_iconst (v := 1) C dX10_init_23 (by decide) ?_
  refine jv_iconst (v := 0) C dX10_init_24 (by decide) ?_
  refine jv_iast C dX10_init_25 h (fun M7 h => ?_)
  refine jv_dup C dX10_init_26 rfl ?_
  refine jv_iconst (v := 2) C dX10_init_27 (by decide) ?_
  refine jv_iconst (v := 0) C dX10_init_28 (by decide) ?_
  refine jv_iast C dX10_init_29 h (fun M8 h => ?_)
  refine jv_dup C dX10_init_30 rfl ?_
  refine jv_iconst (v := 3) C dX10_init_31 (by decide) ?_
  refine jv_sipush (v := 4000) C dX10_init_32 (by decide) ?_
  refine jv_iast C dX10_init_35 h (fun M9 h => ?_)
  refine jv_dup C dX10_init_36 rfl ?_
  refine jv_iconst (v := 4) C dX10_init_37 (by decide) ?_
  refine jv_iconst (v := 5) C dX10_init_38 (by decide) ?_
  refine jv_iast C dX10_init_39 h (fun M10 h => ?_)
  refine jv_dup C dX10_init_40 rfl ?_
  refine jv_iconst (v := 5) C dX10_init_41 (by decide) ?_
  refine jv_bipush (v := 100) C dX10_init_42 (by decide) ?_
  refine jv_iast C dX10_init_44 h (fun M11 h => ?_)
  refine jv_putFR C fp_X10_13 hi dX10_init_45 (fun _ => ⟨rfl, rfl⟩) h (fun M12 h => ?_)
  refine jv_aload_n C dX10_init_48 rfl 0 rfl ?_
  refine jv_bipush (v := 6) C dX10_init_49 (by decide) ?_
  refine jv_newa0 (lim := 6) C gw_200 (by decide) (by decide) (by decide) dX10_init_51 h (fun b13 M14 h => ?_)
  refine jv_putFR C fp_X10_17 hi dX10_init_53 (fun _ => ⟨rfl, rfl⟩) h (fun M15 h => ?_)
  refine jv_aload_n C dX10_init_56 rfl 0 rfl ?_
  refine jv_bipush (v := 120) C dX10_init_57 (by decide) ?_
  refine jv_newa0 (lim := 120) C gw_200 (by decide) (by decide) (by decide) dX10_init_59 h (fun b16 M17 h => ?_)
  refine jv_putFR C fp_X10_20 hi dX10_init_61 (fun _ => ⟨rfl, rfl⟩) h (fun M18 h => ?_)
  refine jv_aload_n C dX10_init_64 rfl 0 rfl ?_
  refine jv_bipush (v := 16) C dX10_init_65 (by decide) ?_
  refine jv_newa0 (lim := 16) C gw_200 (by decide) (by decide) (by decide) dX10_init_67 h (fun b19 M20 h => ?_)
  refine jv_putFR C fp_X10_23 hi dX10_init_69 (fun _ => ⟨rfl, rfl⟩) h (fun M21 h => ?_)
  refine jv_aload_n C dX10_init_72 rfl 0 rfl ?_
  refine jv_bipush (v := 16) C dX10_init_73 (by decide) ?_
  refine jv_newa0 (lim := 16) C gw_200 (by decide) (by decide) (by decide) dX10_init_75 h (fun b22 M23 h => ?_)
  refine jv_putFR C fp_X10_26 hi dX10_init_77 (fun _ => ⟨rfl, rfl⟩) h (fun M24 h => ?_)
  refine jv_aload_n C dX10_init_80 rfl 0 rfl ?_
  refine jv_sipush (v := 412) C dX10_init_81 (by decide) ?_
  refine jv_newa0 (lim := 412) C gw_200 (by decide) (by decide) (by decide) dX10_init_84 h (fun b25 M26 h => ?_)
  refine jv_putFR C fp_X10_29 hi dX10_init_86 (fun _ => ⟨rfl, rfl⟩) h (fun M27 h => ?_)
  refine jv_aload_n C dX10_init_89 rfl 0 rfl ?_
  refine jv_sipush (v := 4944) C dX10_init_90 (by decide) ?_
  refine jv_newa0 (lim := 4944) C gw_200 (by decide) (by decide) (by decide) dX10_init_93 h (fun b28 M29 h => ?_)
  refine jv_putFR C fp_X10_32 hi dX10_init_95 (fun _ => ⟨rfl, rfl⟩) h (fun M30 h => ?_)
  refine jv_aload_n C dX10_init_98 rfl 0 rfl ?_
  refine jv_sipush (v := 824) C dX10_init_99 (by decide) ?_
  refine jv_newa0 (lim := 824) C gw_200 (by decide) (by decide) (by decide) dX10_init_102 h (fun b31 M32 h => ?_)
  refine jv_putFR C fp_X10_35 hi dX10_init_104 (fun _ => ⟨rfl, rfl⟩) h (fun M33 h => ?_)
  refine jv_aload_n C dX10_init_107 rfl 0 rfl ?_
  refine jv_iconst (v := 2) C dX10_init_108 (by decide) ?_
  refine jv_newa3 (lim := 2) C gw_712 (by decide) (by decide) (by decide) dX10_init_109 h (fun b34 M35 h => ?_)
  refine jv_putFR C fp_X10_38 hi dX10_init_111 (fun _ => ⟨rfl, rfl⟩) h (fun M36 h => ?_)
  refine jv_aload_n C dX10_init_114 rfl 0 rfl ?_
  refine jv_ldc C gw_1348 dX10_init_115 ?_
  refine jv_newa0 (lim := 45009) C gw_200 (by decide) (by decide) (by decide) dX10_init_117 h (fun b37 M38 h => ?_)
  refine jv_putFR C fp_X10_43 hi dX10_init_119 (fun _ => ⟨rfl, rfl⟩) h (fun M39 h => ?_)
  refine jv_aload_n C dX10_init_122 rfl 0 rfl ?_
  refine jv_bipush (v := 8) C dX10_init_123 (by decide) ?_
  refine jv_newa0 (lim := 8) C gw_200 (by decide) (by decide) (by decide) dX10_init_125 h (fun b40 M41 h => ?_)
  refine jv_putFR C fp_X10_46 hi dX10_init_127 (fun _ => ⟨rfl, rfl⟩) h (fun M42 h => ?_)
  refine jv_aload_n C dX10_init_130 rfl 0 rfl ?_
  refine jv_bipush (v := 8) C dX10_init_131 (by decide) ?_
  refine jv_newa0 (lim := 8) C gw_200 (by decide) (by decide) (by decide) dX10_init_133 h (fun b43 M44 h => ?_)
  refine jv_putFR C fp_X10_49 hi dX10_init_135 (fun _ => ⟨rfl, rfl⟩) h (fun M45 h => ?_)
  refine jv_aload_n C dX10_init_138 rfl 0 rfl ?_
  refine jv_sipush (v := 2002) C dX10_init_139 (by decide) ?_
  refine jv_newa0 (lim := 2002) C gw_200 (by decide) (by decide) (by decide) dX10_init_142 h (fun b46 M47 h => ?_)
  refine jv_putFR C fp_X10_52 hi dX10_init_144 (fun _ => ⟨rfl, rfl⟩) h (fun M48 h => ?_)
  refine jv_aload_n C dX10_init_147 rfl 0 rfl ?_
  refine jv_vV0 (As := []) C lk_X10_55 rfl dX10_init_148 rfl rfl (by decide) (by decide) (by decide) (Nat.le_of_ble_eq_true rfl) h (fun _ _ h => ct_X10_clearState h) (fun _ M49 h => ?_)
  exact jv_vret C hr dX10_init_151 h
