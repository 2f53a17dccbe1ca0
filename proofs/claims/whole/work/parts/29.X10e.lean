theorem dX10_statement_0 : decode cX10_statement 0 = .ok (.aload_n 0, 1) := by decide +kernel
theorem dX10_statement_1 : decode cX10_statement 1 = .ok (.ldc 129, 2) := by decide +kernel
theorem dX10_statement_3 : decode cX10_statement 3 = .ok (.invokevirtual 131, 3) := by decide +kernel
theorem dX10_statement_6 : decode cX10_statement 6 = .ok (.ifCond .eq 52, 3) := by decide +kernel
theorem dX10_statement_9 : decode cX10_statement 9 = .ok (.aload_n 0, 1) := by decide +kernel
theorem dX10_statement_10 : decode cX10_statement 10 = .ok (.aload_n 0, 1) := by decide +kernel
theorem dX10_statement_11 : decode cX10_statement 11 = .ok (.getfield 17, 3) := by decide +kernel
theorem dX10_statement_14 : decode cX10_statement 14 = .ok (.iconst 0, 1) := by decide +kernel
theorem dX10_statement_15 : decode cX10_statement 15 = .ok (.iaload, 1) := by decide +kernel
theorem dX10_statement_16 : decode cX10_statement 16 = .ok (.bipush 8, 2) := by decide +kernel
theorem dX10_statement_18 : decode cX10_statement 18 = .ok (.if_icmp .ge 7, 3) := by decide +kernel
theorem dX10_statement_21 : decode cX10_statement 21 = .ok (.iconst 1, 1) := by decide +kernel
theorem dX10_statement_22 : decode cX10_statement 22 = .ok (.goto 4, 3) := by decide +kernel
theorem dX10_statement_25 : decode cX10_statement 25 = .ok (.iconst 0, 1) := by decide +kernel
theorem dX10_statement_26 : decode cX10_statement 26 = .ok (.iconst 4, 1) := by decide +kernel
theorem dX10_statement_27 : decode cX10_statement 27 = .ok (.invokevirtual 115, 3) := by decide +kernel
theorem dX10_statement_30 : decode cX10_statement 30 = .ok (.ifCond .ne 4, 3) := by decide +kernel
theorem dX10_statement_33 : decode cX10_statement 33 = .ok (.return_, 1) := by decide +kernel
theorem dX10_statement_34 : decode cX10_statement 34 = .ok (.aload_n 0, 1) := by decide +kernel
theorem dX10_statement_35 : decode cX10_statement 35 = .ok (.aload_n 0, 1) := by decide +kernel
theorem dX10_statement_36 : decode cX10_statement 36 = .ok (.getfield 17, 3) := by decide +kernel
theorem dX10_statement_39 : decode cX10_statement 39 = .ok (.iconst 0, 1) := by decide +kernel
theorem dX10_statement_40 : decode cX10_statement 40 = .ok (.iaload, 1) := by decide +kernel
theorem dX10_statement_41 : decode cX10_statement 41 = .ok (.iconst 1, 1) := by decide +kernel
theorem dX10_statement_42 : decode cX10_statement 42 = .ok (.invokevirtual 135, 3) := by decide +kernel
theorem dX10_statement_45 : decode cX10_statement 45 = .ok (.aload_n 0, 1) := by decide +kernel
theorem dX10_statement_46 : decode cX10_statement 46 = .ok (.getfield 17, 3) := by decide +kernel
theorem dX10_statement_49 : decode cX10_statement 49 = .ok (.iconst 0, 1) := by decide +kernel
theorem dX10_statement_50 : decode cX10_statement 50 = .ok (.dup2, 1) := by decide +kernel
theorem dX10_statement_51 : decode cX10_statement 51 = .ok (.iaload, 1) := by decide +kernel
theorem dX10_statement_52 : decode cX10_statement 52 = .ok (.iconst 1, 1) := by decide +kernel
theorem dX10_statement_53 : decode cX10_statement 53 = .ok (.iadd, 1) := by decide +kernel
theorem dX10_statement_54 : decode cX10_statement 54 = .ok (.iastore, 1) := by decide +kernel
theorem dX10_statement_55 : decode cX10_statement 55 = .ok (.goto 253, 3) := by decide +kernel
theorem dX10_statement_58 : decode cX10_statement 58 = .ok (.aload_n 0, 1) := by decide +kernel
theorem dX10_statement_59 : decode cX10_statement 59 = .ok (.ldc 139, 2) := by decide +kernel
theorem dX10_statement_61 : decode cX10_statement 61 = .ok (.invokevirtual 131, 3) := by decide +kernel
theorem dX10_statement_64 : decode cX10_statement 64 = .ok (.ifCond .eq 54, 3) := by decide +kernel
theorem dX10_statement_67 : decode cX10_statement 67 = .ok (.aload_n 0, 1) := by decide +kernel
theorem dX10_statement_68 : decode cX10_statement 68 = .ok (.aload_n 0, 1) := by decide +kernel
theorem dX10_statement_69 : decode cX10_statement 69 = .ok (.getfield 17, 3) := by decide +kernel
theorem dX10_statement_72 : decode cX10_statement 72 = .ok (.iconst 1, 1) := by decide +kernel
theorem dX10_statement_73 : decode cX10_statement 73 = .ok (.iaload, 1) := by decide +kernel
theorem dX10_statement_74 : decode cX10_statement 74 = .ok (.iconst 4, 1) := by decide +kernel
theorem dX10_statement_75 : decode cX10_statement 75 = .ok (.if_icmp .ge 7, 3) := by decide +kernel
theorem dX10_statement_78 : decode cX10_statement 78 = .ok (.iconst 1, 1) := by decide +kernel
theorem dX10_statement_79 : decode cX10_statement 79 = .ok (.goto 4, 3) := by decide +kernel
theorem dX10_statement_82 : decode cX10_statement 82 = .ok (.iconst 0, 1) := by decide +kernel
theorem dX10_statement_83 : decode cX10_statement 83 = .ok (.iconst 4, 1) := by decide +kernel
theorem dX10_statement_84 : decode cX10_statement 84 = .ok (.invokevirtual 115, 3) := by decide +kernel
theorem dX10_statement_87 : decode cX10_statement 87 = .ok (.ifCond .ne 4, 3) := by decide +kernel
theorem dX10_statement_90 : decode cX10_statement 90 = .ok (.return_, 1) := by decide +kernel
theorem dX10_statement_91 : decode cX10_statement 91 = .ok (.aload_n 0, 1) := by decide +kernel
theorem dX10_statement_92 : decode cX10_statement 92 = .ok (.bipush 8, 2) := by decide +kernel
theorem dX10_statement_94 : decode cX10_statement 94 = .ok (.aload_n 0, 1) := by decide +kernel
theorem dX10_statement_95 : decode cX10_statement 95 = .ok (.getfield 17, 3) := by decide +kernel
theorem dX10_statement_98 : decode cX10_statement 98 = .ok (.iconst 1, 1) := by decide +kernel
theorem dX10_statement_99 : decode cX10_statement 99 = .ok (.iaload, 1) := by decide +kernel
theorem dX10_statement_100 : decode cX10_statement 100 = .ok (.iadd, 1) := by decide +kernel
theorem dX10_statement_101 : decode cX10_statement 101 = .ok (.iconst 0, 1) := by decide +kernel
theorem dX10_statement_102 : decode cX10_statement 102 = .ok (.invokevirtual 135, 3) := by decide +kernel
theorem dX10_statement_105 : decode cX10_statement 105 = .ok (.aload_n 0, 1) := by decide +kernel
theorem dX10_statement_106 : decode cX10_statement 106 = .ok (.getfield 17, 3) := by decide +kernel
theorem dX10_statement_109 : decode cX10_statement 109 = .ok (.iconst 1, 1) := by decide +kernel
theorem dX10_statement_110 : decode cX10_statement 110 = .ok (.dup2, 1) := by decide +kernel
theorem dX10_statement_111 : decode cX10_statement 111 = .ok (.iaload, 1) := by decide +kernel
theorem dX10_statement_112 : decode cX10_statement 112 = .ok (.iconst 1, 1) := by decide +kernel
theorem dX10_statement_113 : decode cX10_statement 113 = .ok (.iadd, 1) := by decide +kernel
theorem dX10_statement_114 : decode cX10_statement 114 = .ok (.iastore, 1) := by decide +kernel
theorem dX10_statement_115 : decode cX10_statement 115 = .ok (.goto 193, 3) := by decide +kernel
theorem dX10_statement_118 : decode cX10_statement 118 = .ok (.aload_n 0, 1) := by decide +kernel
theorem dX10_statement_119 : decode cX10_statement 119 = .ok (.ldc 141, 2) := by decide +kernel
theorem dX10_statement_121 : decode cX10_statement 121 = .ok (.invokevirtual 131, 3) := by decide +kernel
theorem dX10_statement_124 : decode cX10_statement 124 = .ok (.ifCond .eq 100, 3) := by decide +kernel
theorem dX10_statement_127 : decode cX10_statement 127 = .ok (.aload_n 0, 1) := by decide +kernel
theorem dX10_statement_128 : decode cX10_statement 128 = .ok (.aload_n 0, 1) := by decide +kernel
theorem dX10_statement_129 : decode cX10_statement 129 = .ok (.getfield 17, 3) := by decide +kernel
theorem dX10_statement_132 : decode cX10_statement 132 = .ok (.iconst 2, 1) := by decide +kernel
theorem dX10_statement_133 : decode cX10_statement 133 = .ok (.iaload, 1) := by decide +kernel
theorem dX10_statement_134 : decode cX10_statement 134 = .ok (.bipush 8, 2) := by decide +kernel
theorem dX10_statement_136 : decode cX10_statement 136 = .ok (.if_icmp .ge 7, 3) := by decide +kernel
theorem dX10_statement_139 : decode cX10_statement 139 = .ok (.iconst 1, 1) := by decide +kernel
theorem dX10_statement_140 : decode cX10_statement 140 = .ok (.goto 4, 3) := by decide +kernel
theorem dX10_statement_143 : decode cX10_statement 143 = .ok (.iconst 0, 1) := by decide +kernel
theorem dX10_statement_144 : decode cX10_statement 144 = .ok (.iconst 4, 1) := by decide +kernel
theorem dX10_statement_145 : decode cX10_statement 145 = .ok (.invokevirtual 115, 3) := by decide +kernel
theorem dX10_statement_148 : decode cX10_statement 148 = .ok (.ifCond .ne 4, 3) := by decide +kernel
theorem dX10_statement_151 : decode cX10_statement 151 = .ok (.return_, 1) := by decide +kernel
theorem dX10_statement_152 : decode cX10_statement 152 = .ok (.aload_n 0, 1) := by decide +kernel
theorem dX10_statement_153 : decode cX10_statement 153 = .ok (.invokevirtual 119, 3) := by decide +kernel
theorem dX10_statement_156 : decode cX10_statement 156 = .ok (.aload_n 0, 1) := by decide +kernel
theorem dX10_statement_157 : decode cX10_statement 157 = .ok (.getfield 23, 3) := by decide +kernel
theorem dX10_statement_160 : decode cX10_statement 160 = .ok (.bipush 8, 2) := by decide +kernel
theorem dX10_statement_162 : decode cX10_statement 162 = .ok (.aload_n 0, 1) := by decide +kernel
theorem dX10_statement_163 : decode cX10_statement 163 = .ok (.getfield 17, 3) := by decide +kernel
theorem dX10_statement_166 : decode cX10_statement 166 = .ok (.iconst 2, 1) := by decide +kernel
theorem dX10_statement_167 : decode cX10_statement 167 = .ok (.iaload, 1) := by decide +kernel
theorem dX10_statement_168 : decode cX10_statement 168 = .ok (.iadd, 1) := by decide +kernel
theorem dX10_statement_169 : decode cX10_statement 169 = .ok (.aload_n 0, 1) := by decide +kernel
theorem dX10_statement_170 : decode cX10_statement 170 = .ok (.iconst 0, 1) := by decide +kernel
theorem dX10_statement_171 : decode cX10_statement 171 = .ok (.aload_n 0, 1) := by decide +kernel
theorem dX10_statement_172 : decode cX10_statement 172 = .ok (.getfield 17, 3) := by decide +kernel
theorem dX10_statement_175 : decode cX10_statement 175 = .ok (.iconst 0, 1) := by decide +kernel
theorem dX10_statement_176 : decode cX10_statement 176 = .ok (.iaload, 1) := by decide +kernel
theorem dX10_statement_177 : decode cX10_statement 177 = .ok (.iconst 1, 1) := by decide +kernel
theorem dX10_statement_178 : decode cX10_statement 178 = .ok (.isub, 1) := by decide +kernel
theorem dX10_statement_179 : decode cX10_statement 179 = .ok (.invokevirtual 122, 3) := by decide +kernel
theorem dX10_statement_182 : decode cX10_statement 182 = .ok (.iastore, 1) := by decide +kernel
theorem dX10_statement_183 : decode cX10_statement 183 = .ok (.aload_n 0, 1) := by decide +kernel
theorem dX10_statement_184 : decode cX10_statement 184 = .ok (.getfield 100, 3) := by decide +kernel
theorem dX10_statement_187 : decode cX10_statement 187 = .ok (.ifCond .ne 24, 3) := by decide +kernel
theorem dX10_statement_190 : decode cX10_statement 190 = .ok (.aload_n 0, 1) := by decide +kernel
theorem dX10_statement_191 : decode cX10_statement 191 = .ok (.getfield 26, 3) := by decide +kernel
theorem dX10_statement_194 : decode cX10_statement 194 = .ok (.bipush 8, 2) := by decide +kernel
theorem dX10_statement_196 : decode cX10_statement 196 = .ok (.aload_n 0, 1) := by decide +kernel
theorem dX10_statement_197 : decode cX10_statement 197 = .ok (.getfield 17, 3) := by decide +kernel
theorem dX10_statement_200 : decode cX10_statement 200 = .ok (.iconst 2, 1) := by decide +kernel
theorem dX10_statement_201 : decode cX10_statement 201 = .ok (.iaload, 1) := by decide +kernel
theorem dX10_statement_202 : decode cX10_statement 202 = .ok (.iadd, 1) := by decide +kernel
theorem dX10_statement_203 : decode cX10_statement 203 = .ok (.aload_n 0, 1) := by decide +kernel
theorem dX10_statement_204 : decode cX10_statement 204 = .ok (.iconst 1, 1) := by decide +kernel
theorem dX10_statement_205 : decode cX10_statement 205 = .ok (.bipush 100, 2) := by decide +kernel
theorem dX10_statement_207 : decode cX10_statement 207 = .ok (.invokevirtual 122, 3) := by decide +kernel
theorem dX10_statement_210 : decode cX10_statement 210 = .ok (.iastore, 1) := by decide +kernel
theorem dX10_statement_211 : decode cX10_statement 211 = .ok (.aload_n 0, 1) := by decide +kernel
theorem dX10_statement_212 : decode cX10_statement 212 = .ok (.getfield 17, 3) := by decide +kernel
theorem dX10_statement_215 : decode cX10_statement 215 = .ok (.iconst 2, 1) := by decide +kernel
theorem dX10_statement_216 : decode cX10_statement 216 = .ok (.dup2, 1) := by decide +kernel
theorem dX10_statement_217 : decode cX10_statement 217 = .ok (.iaload, 1) := by decide +kernel
theorem dX10_statement_218 : decode cX10_statement 218 = .ok (.iconst 1, 1) := by decide +kernel
theorem dX10_statement_219 : decode cX10_statement 219 = .ok (.iadd, 1) := by decide +kernel
theorem dX10_statement_220 : decode cX10_statement 220 = .ok (.iastore, 1) := by decide +kernel
theorem dX10_statement_221 : decode cX10_statement 221 = .ok (.goto 87, 3) := by decide +kernel
theorem dX10_statement_224 : decode cX10_statement 224 = .ok (.aload_n 0, 1) := by decide +kernel
theorem dX10_statement_225 : decode cX10_statement 225 = .ok (.ldc 143, 2) := by decide +kernel
theorem dX10_statement_227 : decode cX10_statement 227 = .ok (.invokevirtual 131, 3) := by decide +kernel
theorem dX10_statement_230 : decode cX10_statement 230 = .ok (.ifCond .eq 23, 3) := by decide +kernel
theorem dX10_statement_233 : decode cX10_statement 233 = .ok (.aload_n 0, 1) := by decide +kernel
theorem dX10_statement_234 : decode cX10_statement 234 = .ok (.getfield 17, 3) := by decide +kernel
theorem dX10_statement_237 : decode cX10_statement 237 = .ok (.iconst 3, 1) := by decide +kernel
theorem dX10_statement_238 : decode cX10_statement 238 = .ok (.aload_n 0, 1) := by decide +kernel
theorem dX10_statement_239 : decode cX10_statement 239 = .ok (.iconst 0, 1) := by decide +kernel
theorem dX10_statement_240 : decode cX10_statement 240 = .ok (.sipush 1000, 3) := by decide +kernel
theorem dX10_statement_243 : decode cX10_statement 243 = .ok (.sipush 4000, 3) := by decide +kernel
theorem dX10_statement_246 : decode cX10_statement 246 = .ok (.invokevirtual 145, 3) := by decide +kernel
theorem dX10_statement_249 : decode cX10_statement 249 = .ok (.iastore, 1) := by decide +kernel
theorem dX10_statement_250 : decode cX10_statement 250 = .ok (.goto 58, 3) := by decide +kernel
theorem dX10_statement_253 : decode cX10_statement 253 = .ok (.aload_n 0, 1) := by decide +kernel
theorem dX10_statement_254 : decode cX10_statement 254 = .ok (.ldc 149, 2) := by decide +kernel
theorem dX10_statement_256 : decode cX10_statement 256 = .ok (.invokevirtual 131, 3) := by decide +kernel
theorem dX10_statement_259 : decode cX10_statement 259 = .ok (.ifCond .eq 20, 3) := by decide +kernel
theorem dX10_statement_262 : decode cX10_statement 262 = .ok (.aload_n 0, 1) := by decide +kernel
theorem dX10_statement_263 : decode cX10_statement 263 = .ok (.getfield 17, 3) := by decide +kernel
theorem dX10_statement_266 : decode cX10_statement 266 = .ok (.iconst 4, 1) := by decide +kernel
theorem dX10_statement_267 : decode cX10_statement 267 = .ok (.aload_n 0, 1) := by decide +kernel
theorem dX10_statement_268 : decode cX10_statement 268 = .ok (.iconst 1, 1) := by decide +kernel
theorem dX10_statement_269 : decode cX10_statement 269 = .ok (.iconst 0, 1) := by decide +kernel
theorem dX10_statement_270 : decode cX10_statement 270 = .ok (.bipush 20, 2) := by decide +kernel
theorem dX10_statement_272 : decode cX10_statement 272 = .ok (.invokevirtual 145, 3) := by decide +kernel
theorem dX10_statement_275 : decode cX10_statement 275 = .ok (.iastore, 1) := by decide +kernel
theorem dX10_statement_276 : decode cX10_statement 276 = .ok (.goto 32, 3) := by decide +kernel
theorem dX10_statement_279 : decode cX10_statement 279 = .ok (.aload_n 0, 1) := by decide +kernel
theorem dX10_statement_280 : decode cX10_statement 280 = .ok (.aload_n 0, 1) := by decide +kernel
theorem dX10_statement_281 : decode cX10_statement 281 = .ok (.ldc 151, 2) := by decide +kernel
theorem dX10_statement_283 : decode cX10_statement 283 = .ok (.invokevirtual 131, 3) := by decide +kernel
theorem dX10_statement_286 : decode cX10_statement 286 = .ok (.iconst 1, 1) := by decide +kernel
theorem dX10_statement_287 : decode cX10_statement 287 = .ok (.invokevirtual 115, 3) := by decide +kernel
theorem dX10_statement_290 : decode cX10_statement 290 = .ok (.ifCond .eq 18, 3) := by decide +kernel
theorem dX10_statement_293 : decode cX10_statement 293 = .ok (.aload_n 0, 1) := by decide +kernel
theorem dX10_statement_294 : decode cX10_statement 294 = .ok (.getfield 17, 3) := by decide +kernel
theorem dX10_statement_297 : decode cX10_statement 297 = .ok (.iconst 5, 1) := by decide +kernel
theorem dX10_statement_298 : decode cX10_statement 298 = .ok (.aload_n 0, 1) := by decide +kernel
theorem dX10_statement_299 : decode cX10_statement 299 = .ok (.iconst 2, 1) := by decide +kernel
theorem dX10_statement_300 : decode cX10_statement 300 = .ok (.iconst 0, 1) := by decide +kernel
theorem dX10_statement_301 : decode cX10_statement 301 = .ok (.sipush 2000, 3) := by decide +kernel
theorem dX10_statement_304 : decode cX10_statement 304 = .ok (.invokevirtual 145, 3) := by decide +kernel
theorem dX10_statement_307 : decode cX10_statement 307 = .ok (.iastore, 1) := by decide +kernel
theorem dX10_statement_308 : decode cX10_statement 308 = .ok (.return_, 1) := by decide +kernel
def fn_X10_statement_211 (N : Nat) (M : Mem) (a0 : Nat) : Option (Unit × Mem) :=
  (mm_gR M a0 10 11).bind fun b1 =>
  (mm_aI M b1 0 2).bind fun v2 =>
  (mm_sI M b1 0 2 (v2 + 1)).bind fun M3 =>
  some ((), M3)
set_option maxRecDepth 100000 in
set_option maxHeartbeats 4000000 in
theorem bk_X10_statement_211 {Γ : Gm} {ω : Wd} {k N : Nat} {r : Unit} {M' : Mem} (C : Cx Γ cX10_statement 1 RX10 ω 5 0 0) (hr : Γ.meth.sig.returnType = none) (M : Mem) (a0 : Nat) (h : fn_X10_statement_211 N M a0 = some (r, M')) : JJ Γ (QF Γ ω k 0 0 none M') 1 ω k M 0 0 211 [(0, .ref a0)] [] := by
  unfold fn_X10_statement_211 at h
  refine jv_aload_n C dX10_statement_211 rfl 0 rfl ?_
  refine jv_getR C fa_X10_17 dX10_statement_212 h (fun b1 h => ?_)
  refine jv_iconst (v := 2) C dX10_statement_215 (by decide) ?_
  refine jv_dup2 C dX10_statement_216 rfl rfl ?_
  refine jv_iald C dX10_statement_217 h (fun v2 h => ?_)
  refine jv_iconst (v := 1) C dX10_statement_218 (by decide) ?_
  refine jv_iadd C dX10_statement_219 ?_
  refine jv_iast C dX10_statement_220 h (fun M3 h => ?_)
  refine jv_goto (tgt := 308) C dX10_statement_221 (by decide) ?_
  exact jv_vret C hr dX10_statement_308 h
def fn_X10_statement_144 (N : Nat) (M : Mem) (a0 : Nat) (s0 : Int32) (s1 : Nat) : Option (Unit × Mem) :=
  (mm_ck M s1 10).bind fun _ => mm_b2 (fn_X10_must N M s1 s0 4) fun v2 M1 =>
  if v2 = 0 then
    some ((), M1)
  else
    (mm_ck M1 a0 10).bind fun _ => mm_b2 (fn_X10_nextToken N M1 a0) fun _ M3 =>
    (mm_gR M3 a0 10 13).bind fun b4 =>
    (mm_gR M3 a0 10 11).bind fun b5 =>
    (mm_aI M3 b5 0 2).bind fun v6 =>
    (mm_gR M3 a0 10 11).bind fun b7 =>
    (mm_aI M3 b7 0 0).bind fun v8 =>
    (mm_ck M3 a0 10).bind fun _ => mm_b2 (fn_X10_number N M3 a0 0 ((v8 - 1))) fun v10 M9 =>
    (mm_sI M9 b4 0 (8 + v6) v10).bind fun M11 =>
    (mm_gI M11 a0 10 8).bind fun v12 =>
    if v12 = 0 then
      (mm_gR M11 a0 10 14).bind fun b13 =>
      (mm_gR M11 a0 10 11).bind fun b14 =>
      (mm_aI M11 b14 0 2).bind fun v15 =>
      (mm_ck M11 a0 10).bind fun _ => mm_b2 (fn_X10_number N M11 a0 1 100) fun v17 M16 =>
      (mm_sI M16 b13 0 (8 + v15) v17).bind fun M18 =>
      fn_X10_statement_211 N M18 a0
    else
      fn_X10_statement_211 N M11 a0
set_option maxRecDepth 100000 in
set_option maxHeartbeats 4000000 in
theorem bk_X10_statement_144 {Γ : Gm} {ω : Wd} {k N : Nat} {r : Unit} {M' : Mem} (C : Cx Γ cX10_statement 1 RX10 ω 5 0 0) (hr : Γ.meth.sig.returnType = none) (M : Mem) (a0 : Nat) (s0 : Int32) (s1 : Nat) (h : fn_X10_statement_144 N M a0 s0 s1 = some (r, M')) : JJ Γ (QF Γ ω k 0 0 none M') 1 ω k M 0 0 144 [(0, .ref a0)] [.int s0, .ref s1] := by
  unfold fn_X10_statement_144 at h
  refine jv_iconst (v := 4) C dX10_statement_144 (by decide) ?_
  refine jv_vI0 (As := [.int s0, .int 4]) C lk_X10_115 rfl dX10_statement_145 rfl rfl (by decide) (by decide) (by decide) (Nat.le_of_ble_eq_true rfl) h (fun _ _ h => ct_X10_must h) (fun v2 M1 h => ?_)
  refine jv_if_ne (tgt := 152) C dX10_statement_148 (by decide) h (fun h => ?_) (fun h => ?_)
  · refine jv_aload_n C dX10_statement_152 rfl 0 rfl ?_
    refine jv_vV0 (As := []) C lk_X10_119 rfl dX10_statement_153 rfl rfl (by decide) (by decide) (by decide) (Nat.le_of_ble_eq_true rfl) h (fun _ _ h => ct_X10_nextToken h) (fun _ M3 h => ?_)
    refine jv_aload_n C dX10_statement_156 rfl 0 rfl ?_
    refine jv_getR C fa_X10_23 dX10_statement_157 h (fun b4 h => ?_)
    refine jv_bipush (v := 8) C dX10_statement_160 (by decide) ?_
    refine jv_aload_n C dX10_statement_162 rfl 0 rfl ?_
    refine jv_getR C fa_X10_17 dX10_statement_163 h (fun b5 h => ?_)
    refine jv_iconst (v := 2) C dX10_statement_166 (by decide) ?_
    refine jv_iald C dX10_statement_167 h (fun v6 h => ?_)
    refine jv_iadd C dX10_statement_168 ?_
    refine jv_aload_n C dX10_statement_169 rfl 0 rfl ?_
    refine jv_iconst (v := 0) C dX10_statement_170 (by decide) ?_
    refine jv_aload_n C dX10_statement_171 rfl 0 rfl ?_
    refine jv_getR C fa_X10_17 dX10_statement_172 h (fun b7 h => ?_)
    refine jv_iconst (v := 0) C dX10_statement_175 (by decide) ?_
    refine jv_iald C dX10_statement_176 h (fun v8 h => ?_)
    refine jv_iconst (v := 1) C dX10_statement_177 (by decide) ?_
    refine jv_isub C dX10_statement_178 ?_
    refine jv_vI0 (As := [.int 0, .int (v8 - 1)]) C lk_X10_122 rfl dX10_statement_179 rfl rfl (by decide) (by decide) (by decide) (Nat.le_of_ble_eq_true rfl) h (fun _ _ h => ct_X10_number h) (fun v10 M9 h => ?_)
    refine jv_iast C dX10_statement_182 h (fun M11 h => ?_)
    refine jv_aload_n C dX10_statement_183 rfl 0 rfl ?_
    refine jv_getI C fa_X10_100 dX10_statement_184 h (fun v12 h => ?_)
    refine jv_if_ne (tgt := 211) C dX10_statement_187 (by decide) h (fun h => ?_) (fun h => ?_)
    · exact bk_X10_statement_211 C hr _ _ h
    · refine jv_aload_n C dX10_statement_190 rfl 0 rfl ?_
      refine jv_getR C fa_X10_26 dX10_statement_191 h (fun b13 h => ?_)
      refine jv_bipush (v := 8) C dX10_statement_194 (by decide) ?_
      refine jv_aload_n C dX10_statement_196 rfl 0 rfl ?_
      refine jv_getR C fa_X10_17 dX10_statement_197 h (fun b14 h => ?_)
      refine jv_iconst (v := 2) C dX10_statement_200 (by decide) ?_
      refine jv_iald C dX10_statement_201 h (fun v15 h => ?_)
      refine jv_iadd C dX10_statement_202 ?_
      refine jv_aload_n C dX10_statement_203 rfl 0 rfl ?_
      refine jv_iconst (v := 1) C dX10_statement_204 (by decide) ?_
      refine jv_bipush (v := 100) C dX10_statement_205 (by decide) ?_
      refine jv_vI0 (As := [.int 1, .int 100]) C lk_X10_122 rfl dX10_statement_207 rfl rfl (by decide) (by decide) (by decide) (Nat.le_of_ble_eq_true rfl) h (fun _ _ h => ct_X10_number h) (fun v17 M16 h => ?_)
      refine jv_iast C dX10_statement_210 h (fun M18 h => ?_)
      exact bk_X10_statement_211 C hr _ _ h
  · exact jv_vret C hr dX10_statement_151 h
def fn_X10_statement_83 (N : Nat) (M : Mem) (a0 : Nat) (s0 : Int32) (s1 : Nat) : Option (Unit × Mem) :=
  (mm_ck M s1 10).bind fun _ => mm_b2 (fn_X10_must N M s1 s0 4) fun v2 M1 =>
  if v2 = 0 then
    some ((), M1)
  else
    (mm_gR M1 a0 10 11).bind fun b3 =>
    (mm_aI M1 b3 0 1).bind fun v4 =>
    (mm_ck M1 a0 10).bind fun _ => mm_b2 (fn_X10_readKind N M1 a0 ((8 + v4)) 0) fun _ M5 =>
    (mm_gR M5 a0 10 11).bind fun b6 =>
    (mm_aI M5 b6 0 1).bind fun v7 =>
    (mm_sI M5 b6 0 1 (v7 + 1)).bind fun M8 =>
    some ((), M8)
set_option maxRecDepth 100000 in
set_option maxHeartbeats 4000000 in
theorem bk_X10_statement_83 {Γ : Gm} {ω : Wd} {k N : Nat} {r : Unit} {M' : Mem} (C : Cx Γ cX10_statement 1 RX10 ω 5 0 0) (hr : Γ.meth.sig.returnType = none) (M : Mem) (a0 : Nat) (s0 : Int32) (s1 : Nat) (h : fn_X10_statement_83 N M a0 s0 s1 = some (r, M')) : JJ Γ (QF Γ ω k 0 0 none M') 1 ω k M 0 0 83 [(0, .ref a0)] [.int s0, .ref s1] := by
  unfold fn_X10_statement_83 at h
  refine jv_iconst (v := 4) C dX10_statement_83 (by decide) ?_
  refine jv_vI0 (As := [.int s0, .int 4]) C lk_X10_115 rfl dX10_statement_84 rfl rfl (by decide) (by decide) (by decide) (Nat.le_of_ble_eq_true rfl) h (fun _ _ h => ct_X10_must h) (fun v2 M1 h => ?_)
  refine jv_if_ne (tgt := 91) C dX10_statement_87 (by decide) h (fun h => ?_) (fun h => ?_)
  · refine jv_aload_n C dX10_statement_91 rfl 0 rfl ?_
    refine jv_bipush (v := 8) C dX10_statement_92 (by decide) ?_
    refine jv_aload_n C dX10_statement_94 rfl 0 rfl ?_
    refine jv_getR C fa_X10_17 dX10_statement_95 h (fun b3 h => ?_)
    refine jv_iconst (v := 1) C dX10_statement_98 (by decide) ?_
    refine jv_iald C dX10_statement_99 h (fun v4 h => ?_)
    refine jv_iadd C dX10_statement_100 ?_
    refine jv_iconst (v := 0) C dX10_statement_101 (by decide) ?_
    refine jv_vV0 (As := [.int (8 + v4), .int 0]) C lk_X10_135 rfl dX10_statement_102 rfl rfl (by decide) (by decide) (by decide) (Nat.le_of_ble_eq_true rfl) h (fun _ _ h => ct_X10_readKind h) (fun _ M5 h => ?_)
    refine jv_aload_n C dX10_statement_105 rfl 0 rfl ?_
    refine jv_getR C fa_X10_17 dX10_statement_106 h (fun b6 h => ?_)
    refine jv_iconst (v := 1) C dX10_statement_109 (by decide) ?_
    refine jv_dup2 C dX10_statement_110 rfl rfl ?_
    refine jv_iald C dX10_statement_111 h (fun v7 h => ?_)
    refine jv_iconst (v := 1) C dX10_statement_112 (by decide) ?_
    refine jv_iadd C dX10_statement_113 ?_
    refine jv_iast C dX10_statement_114 h (fun M8 h => ?_)
    refine jv_goto (tgt := 308) C dX10_statement_115 (by decide) ?_
    exact jv_vret C hr dX10_statement_308 h
  · exact jv_vret C hr dX10_statement_90 h
def fn_X10_statement_26 (N : Nat) (M : Mem) (a0 : Nat) (s0 : Int32) (s1 : Nat) : Option (Unit × Mem) :=
  (mm_ck M s1 10).bind fun _ => mm_b2 (fn_X10_must N M s1 s0 4) fun v2 M1 =>
  if v2 = 0 then
    some ((), M1)
  else
    (mm_gR M1 a0 10 11).bind fun b3 =>
    (mm_aI M1 b3 0 0).bind fun v4 =>
    (mm_ck M1 a0 10).bind fun _ => mm_b2 (fn_X10_readKind N M1 a0 v4 1) fun _ M5 =>
    (mm_gR M5 a0 10 11).bind fun b6 =>
    (mm_aI M5 b6 0 0).bind fun v7 =>
    (mm_sI M5 b6 0 0 (v7 + 1)).bind fun M8 =>
    some ((), M8)
set_option maxRecDepth 100000 in
set_option maxHeartbeats 4000000 in
theorem bk_X10_statement_26 {Γ : Gm} {ω : Wd} {k N : Nat} {r : Unit} {M' : Mem} (C : Cx Γ cX10_statement 1 RX10 ω 5 0 0) (hr : Γ.meth.sig.returnType = none) (M : Mem) (a0 : Nat) (s0 : Int32) (s1 : Nat) (h : fn_X10_statement_26 N M a0 s0 s1 = some (r, M')) : JJ Γ (QF Γ ω k 0 0 none M') 1 ω k M 0 0 26 [(0, .ref a0)] [.int s0, .ref s1] := by
  unfold fn_X10_statement_26 at h
  refine jv_iconst (v := 4) C dX10_statement_26 (by decide) ?_
  refine jv_vI0 (As := [.int s0, .int 4]) C lk_X10_115 rfl dX10_statement_27 rfl rfl (by decide) (by decide) (by decide) (Nat.le_of_ble_eq_true rfl) h (fun _ _ h => ct_X10_must h) (fun v2 M1 h => ?_)
  refine jv_if_ne (tgt := 34) C dX10_statement_30 (by decide) h (fun h => ?_) (fun h => ?_)
  · refine jv_aload_n C dX10_statement_34 rfl 0 rfl ?_
    refine jv_aload_n C dX10_statement_35 rfl 0 rfl ?_
    refine jv_getR C fa_X10_17 dX10_statement_36 h (fun b3 h => ?_)
    refine jv_iconst (v := 0) C dX10_statement_39 (by decide) ?_
    refine jv_iald C dX10_statement_40 h (fun v4 h => ?_)
    refine jv_iconst (v := 1) C dX10_statement_41 (by decide) ?_
    refine jv_vV0 (As := [.int v4, .int 1]) C lk_X10_135 rfl dX10_statement_42 rfl rfl (by decide) (by decide) (by decide) (Nat.le_of_ble_eq_true rfl) h (fun _ _ h => ct_X10_readKind h) (fun _ M5 h => ?_)
    refine jv_aload_n C dX10_statement_45 rfl 0 rfl ?_
    refine jv_getR C fa_X10_17 dX10_statement_46 h (fun b6 h => ?_)
    refine jv_iconst (v := 0) C dX10_statement_49 (by decide) ?_
    refine jv_dup2 C dX10_statement_50 rfl rfl ?_
    refine jv_iald C dX10_statement_51 h (fun v7 h => ?_)
    refine jv_iconst (v := 1) C dX10_statement_52 (by decide) ?_
    refine jv_iadd C dX10_statement_53 ?_
    refine jv_iast C dX10_statement_54 h (fun M8 h => ?_)
    refine jv_goto (tgt := 308) C dX10_statement_55 (by decide) ?_
    exact jv_vret C hr dX10_statement_308 h
  · exact jv_vret C hr dX10_statement_33 h
def fn_X10_statement (N : Nat) (M : Mem) (a0 : Nat) : Option (Unit × Mem) :=
  (mm_ck M a0 10).bind fun _ => mm_b2 (fn_X10_is N M a0 0) fun v2 M1 =>
  if v2 = 0 then
    (mm_ck M1 a0 10).bind fun _ => mm_b2 (fn_X10_is N M1 a0 1) fun v4 M3 =>
    if v4 = 0 then
      (mm_ck M3 a0 10).bind fun _ => mm_b2 (fn_X10_is N M3 a0 2) fun v6 M5 =>
      if v6 = 0 then
        (mm_ck M5 a0 10).bind fun _ => mm_b2 (fn_X10_is N M5 a0 3) fun v8 M7 =>
        if v8 = 0 then
          (mm_ck M7 a0 10).bind fun _ => mm_b2 (fn_X10_is N M7 a0 4) fun v10 M9 =>
          if v10 = 0 then
            (mm_ck M9 a0 10).bind fun _ => mm_b2 (fn_X10_is N M9 a0 5) fun v12 M11 =>
            (mm_ck M11 a0 10).bind fun _ => mm_b2 (fn_X10_must N M11 a0 v12 1) fun v14 M13 =>
            if v14 = 0 then
              some ((), M13)
            else
              (mm_gR M13 a0 10 11).bind fun b15 =>
              (mm_ck M13 a0 10).bind fun _ => mm_b2 (fn_X10_once N M13 a0 2 0 2000) fun v17 M16 =>
              (mm_sI M16 b15 0 5 v17).bind fun M18 =>
              some ((), M18)
          else
            (mm_gR M9 a0 10 11).bind fun b19 =>
            (mm_ck M9 a0 10).bind fun _ => mm_b2 (fn_X10_once N M9 a0 1 0 20) fun v21 M20 =>
            (mm_sI M20 b19 0 4 v21).bind fun M22 =>
            some ((), M22)
        else
          (mm_gR M7 a0 10 11).bind fun b23 =>
          (mm_ck M7 a0 10).bind fun _ => mm_b2 (fn_X10_once N M7 a0 0 1000 4000) fun v25 M24 =>
          (mm_sI M24 b23 0 3 v25).bind fun M26 =>
          some ((), M26)
      else
        (mm_gR M5 a0 10 11).bind fun b27 =>
        (mm_aI M5 b27 0 2).bind fun v28 =>
        if 8 ≤ v28 then
          fn_X10_statement_144 N M5 a0 0 a0
        else
          fn_X10_statement_144 N M5 a0 1 a0
    else
      (mm_gR M3 a0 10 11).bind fun b29 =>
      (mm_aI M3 b29 0 1).bind fun v30 =>
      if 4 ≤ v30 then
        fn_X10_statement_83 N M3 a0 0 a0
      else
        fn_X10_statement_83 N M3 a0 1 a0
  else
    (mm_gR M1 a0 10 11).bind fun b31 =>
    (mm_aI M1 b31 0 0).bind fun v32 =>
    if 8 ≤ v32 then
      fn_X10_statement_26 N M1 a0 0 a0
    else
      fn_X10_statement_26 N M1 a0 1 a0
set_option maxRecDepth 100000 in
set_option maxHeartbeats 4000000 in
theorem ct_X10_statement {l : Launch} {ω : Wd} {k N : Nat} {M : Mem} {a0 : Nat} {r : Unit} {M' : Mem} (h : fn_X10_statement N M a0 = some (r, M')) : CM l ω k yX10_statement cX10_statement 1 none 5 0 0 [.ref a0] M none M' := by
  refine CM.of (by decide) (Nat.le_of_ble_eq_true rfl) fun Γ hl C hr hi => ?_
  subst hl
  unfold fn_X10_statement at h
  refine jv_aload_n C dX10_statement_0 rfl 0 rfl ?_
  refine jv_ldcS (u := 0) C ls_X10_129 rfl (by decide) dX10_statement_1 ?_
  refine jv_vI0 (As := [.float 0]) C lk_X10_131 rfl dX10_statement_3 rfl rfl (by decide) (by decide) (by decide) (Nat.le_of_ble_eq_true rfl) h (fun _ _ h => ct_X10_is h) (fun v2 M1 h => ?_)
  refine jv_if_eq (tgt := 58) C dX10_statement_6 (by decide) h (fun h => ?_) (fun h => ?_)
  · refine jv_aload_n C dX10_statement_58 rfl 0 rfl ?_
    refine jv_ldcS (u := 1) C ls_X10_139 rfl (by decide) dX10_statement_59 ?_
    refine jv_vI0 (As := [.float 1]) C lk_X10_131 rfl dX10_statement_61 rfl rfl (by decide) (by decide) (by decide) (Nat.le_of_ble_eq_true rfl) h (fun _ _ h => ct_X10_is h) (fun v4 M3 h => ?_)
    refine jv_if_eq (tgt := 118) C dX10_statement_64 (by decide) h (fun h => ?_) (fun h => ?_)
    · refine jv_aload_n C dX10_statement_118 rfl 0 rfl ?_
      refine jv_ldcS (u := 2) C ls_X10_141 rfl (by decide) dX10_statement_119 ?_
      refine jv_vI0 (As := [.float 2]) C lk_X10_131 rfl dX10_statement_121 rfl rfl (by decide) (by decide) (by decide) (Nat.le_of_ble_eq_true rfl) h (fun _ _ h => ct_X10_is h) (fun v6 M5 h => ?_)
      refine jv_if_eq (tgt := 224) C dX10_statement_124 (by decide) h (fun h => ?_) (fun h => ?_)
      · refine jv_aload_n C dX10_statement_224 rfl 0 rfl ?_
        refine jv_ldcS (u := 3) C ls_X10_143 rfl (by decide) dX10_statement_225 ?_
        refine jv_vI0 (As := [.float 3]) C lk_X10_131 rfl dX10_statement_227 rfl rfl (by decide) (by decide) (by decide) (Nat.le_of_ble_eq_true rfl) h (fun _ _ h => ct_X10_is h) (fun v8 M7 h => ?_)
        refine jv_if_eq (tgt := 253) C dX10_statement_230 (by decide) h (fun h => ?_) (fun h => ?_)
        · refine jv_aload_n C dX10_statement_253 rfl 0 rfl ?_
          refine jv_ldcS (u := 4) C ls_X10_149 rfl (by decide) dX10_statement_254 ?_
          refine jv_vI0 (As := [.float 4]) C lk_X10_131 rfl dX10_statement_256 rfl rfl (by decide) (by decide) (by decide) (Nat.le_of_ble_eq_true rfl) h (fun _ _ h => ct_X10_is h) (fun v10 M9 h => ?_)
          refine jv_if_eq (tgt := 279) C dX10_statement_259 (by decide) h (fun h => ?_) (fun h => ?_)
          · refine jv_aload_n C dX10_statement_279 rfl 0 rfl ?_
            refine jv_aload_n C dX10_statement_280 rfl 0 rfl ?_
            refine jv_ldcS (u := 5) C ls_X10_151 rfl (by decide) dX10_statement_281 ?_
            refine jv_vI0 (As := [.float 5]) C lk_X10_131 rfl dX10_statement_283 rfl rfl (by decide) (by decide) (by decide) (Nat.le_of_ble_eq_true rfl) h (fun _ _ h => ct_X10_is h) (fun v12 M11 h => ?_)
            refine jv_iconst (v := 1) C dX10_statement_286 (by decide) ?_
            refine jv_vI0 (As := [.int v12, .int 1]) C lk_X10_115 rfl dX10_statement_287 rfl rfl (by decide) (by decide) (by decide) (Nat.le_of_ble_eq_true rfl) h (fun _ _ h => ct_X10_must h) (fun v14 M13 h => ?_)
            refine jv_if_eq (tgt := 308) C dX10_statement_290 (by decide) h (fun h => ?_) (fun h => ?_)
            · exact jv_vret C hr dX10_statement_308 h
            · refine jv_aload_n C dX10_statement_293 rfl 0 rfl ?_
              refine jv_getR C fa_X10_17 dX10_statement_294 h (fun b15 h => ?_)
              refine jv_iconst (v := 5) C dX10_statement_297 (by decide) ?_
              refine jv_aload_n C dX10_statement_298 rfl 0 rfl ?_
              refine jv_iconst (v := 2) C dX10_statement_299 (by decide) ?_
              refine jv_iconst (v := 0) C dX10_statement_300 (by decide) ?_
              refine jv_sipush (v := 2000) C dX10_statement_301 (by decide) ?_
              refine jv_vI0 (As := [.int 2, .int 0, .int 2000]) C lk_X10_145 rfl dX10_statement_304 rfl rfl (by decide) (by decide) (by decide) (Nat.le_of_ble_eq_true rfl) h (fun _ _ h => ct_X10_once h) (fun v17 M16 h => ?_)
              refine jv_iast C dX10_statement_307 h (fun M18 h => ?_)
              exact jv_vret C hr dX10_statement_308 h
          · refine jv_aload_n C dX10_statement_262 rfl 0 rfl ?_
            refine jv_getR C fa_X10_17 dX10_statement_263 h (fun b19 h => ?_)
            refine jv_iconst (v := 4) C dX10_statement_266 (by decide) ?_
            refine jv_aload_n C dX10_statement_267 rfl 0 rfl ?_
            refine jv_iconst (v := 1) C dX10_statement_268 (by decide) ?_
            refine jv_iconst (v := 0) C dX10_statement_269 (by decide) ?_
            refine jv_bipush (v := 20) C dX10_statement_270 (by decide) ?_
            refine jv_vI0 (As := [.int 1, .int 0, .int 20]) C lk_X10_145 rfl dX10_statement_272 rfl rfl (by decide) (by decide) (by decide) (Nat.le_of_ble_eq_true rfl) h (fun _ _ h => ct_X10_once h) (fun v21 M20 h => ?_)
            refine jv_iast C dX10_statement_275 h (fun M22 h => ?_)
            refine jv_goto (tgt := 308) C dX10_statement_276 (by decide) ?_
            exact jv_vret C hr dX10_statement_308 h
        · refine jv_aload_n C dX10_statement_233 rfl 0 rfl ?_
          refine jv_getR C fa_X10_17 dX10_statement_234 h (fun b23 h => ?_)
          refine jv_iconst (v := 3) C dX10_statement_237 (by decide) ?_
          refine jv_aload_n C dX10_statement_238 rfl 0 rfl ?_
          refine jv_iconst (v := 0) C dX10_statement_239 (by decide) ?_
          refine jv_sipush (v := 1000) C dX10_statement_240 (by decide) ?_
          refine jv_sipush (v := 4000) C dX10_statement_243 (by decide) ?_
          refine jv_vI0 (As := [.int 0, .int 1000, .int 4000]) C lk_X10_145 rfl dX10_statement_246 rfl rfl (by decide) (by decide) (by decide) (Nat.le_of_ble_eq_true rfl) h (fun _ _ h => ct_X10_once h) (fun v25 M24 h => ?_)
          refine jv_iast C dX10_statement_249 h (fun M26 h => ?_)
          refine jv_goto (tgt := 308) C dX10_statement_250 (by decide) ?_
          exact jv_vret C hr dX10_statement_308 h
      · refine jv_aload_n C dX10_statement_127 rfl 0 rfl ?_
        refine jv_aload_n C dX10_statement_128 rfl 0 rfl ?_
        refine jv_getR C fa_X10_17 dX10_statement_129 h (fun b27 h => ?_)
        refine jv_iconst (v := 2) C dX10_statement_132 (by decide) ?_
        refine jv_iald C dX10_statement_133 h (fun v28 h => ?_)
        refine jv_bipush (v := 8) C dX10_statement_134 (by decide) ?_
        refine jv_icmp_ge (tgt := 143) C dX10_statement_136 (by decide) h (fun h => ?_) (fun h => ?_)
        · refine jv_iconst (v := 0) C dX10_statement_143 (by decide) ?_
          exact bk_X10_statement_144 C hr _ _ _ _ h
        · refine jv_iconst (v := 1) C dX10_statement_139 (by decide) ?_
          refine jv_goto (tgt := 144) C dX10_statement_140 (by decide) ?_
          exact bk_X10_statement_144 C hr _ _ _ _ h
    · refine jv_aload_n C dX10_statement_67 rfl 0 rfl ?_
      refine jv_aload_n C dX10_statement_68 rfl 0 rfl ?_
      refine jv_getR C fa_X10_17 dX10_statement_69 h (fun b29 h => ?_)
      refine jv_iconst (v := 1) C dX10_statement_72 (by decide) ?_
      refine jv_iald C dX10_statement_73 h (fun v30 h => ?_)
      refine jv_iconst (v := 4) C dX10_statement_74 (by decide) ?_
      refine jv_icmp_ge (tgt := 82) C dX10_statement_75 (by decide) h (fun h => ?_) (fun h => ?_)
      · refine jv_iconst (v := 0) C dX10_statement_82 (by decide) ?_
        exact bk_X10_statement_83 C hr _ _ _ _ h
      · refine jv_iconst (v := 1) C dX10_statement_78 (by decide) ?_
        refine jv_goto (tgt := 83) C dX10_statement_79 (by decide) ?_
        exact bk_X10_statement_83 C hr _ _ _ _ h
  · refine jv_aload_n C dX10_statement_9 rfl 0 rfl ?_
    refine jv_aload_n C dX10_statement_10 rfl 0 rfl ?_
    refine jv_getR C fa_X10_17 dX10_statement_11 h (fun b31 h => ?_)
    refine jv_iconst (v := 0) C dX10_statement_14 (by decide) ?_
    refine jv_iald C dX10_statement_15 h (fun v32 h => ?_)
    refine jv_bipush (v := 8) C dX10_statement_16 (by decide) ?_
    refine jv_icmp_ge (tgt := 25) C dX10_statement_18 (by decide) h (fun h => ?_) (fun h => ?_)
    · refine jv_iconst (v := 0) C dX10_statement_25 (by decide) ?_
      exact bk_X10_statement_26 C hr _ _ _ _ h
    · refine jv_iconst (v := 1) C dX10_statement_21 (by decide) ?_
      refine jv_goto (tgt := 26) C dX10_statement_22 (by decide) ?_
      exact bk_X10_statement_26 C hr _ _ _ _ h
theorem dX10_parse_0 : decode cX10_parse 0 = .ok (.aload_n 0, 1) := by decide +kernel
theorem dX10_parse_1 : decode cX10_parse 1 = .ok (.iconst 0, 1) := by decide +kernel
theorem dX10_parse_2 : decode cX10_parse 2 = .ok (.putfield 58, 3) := by decide +kernel
theorem dX10_parse_5 : decode cX10_parse 5 = .ok (.iload_n 1, 1) := by decide +kernel
theorem dX10_parse_6 : decode cX10_parse 6 = .ok (.i2l, 1) := by decide +kernel
theorem dX10_parse_7 : decode cX10_parse 7 = .ok (.lconst 0, 1) := by decide +kernel
theorem dX10_parse_8 : decode cX10_parse 8 = .ok (.aload_n 0, 1) := by decide +kernel
theorem dX10_parse_9 : decode cX10_parse 9 = .ok (.getfield 62, 3) := by decide +kernel
theorem dX10_parse_12 : decode cX10_parse 12 = .ok (.i2l, 1) := by decide +kernel
theorem dX10_parse_13 : decode cX10_parse 13 = .ok (.invokestatic 89, 3) := by decide +kernel
theorem dX10_parse_16 : decode cX10_parse 16 = .ok (.ifCond .ne 5, 3) := by decide +kernel
theorem dX10_parse_19 : decode cX10_parse 19 = .ok (.iconst (-1), 1) := by decide +kernel
theorem dX10_parse_20 : decode cX10_parse 20 = .ok (.ireturn, 1) := by decide +kernel
theorem dX10_parse_21 : decode cX10_parse 21 = .ok (.aload_n 0, 1) := by decide +kernel
theorem dX10_parse_22 : decode cX10_parse 22 = .ok (.iload_n 1, 1) := by decide +kernel
theorem dX10_parse_23 : decode cX10_parse 23 = .ok (.putfield 69, 3) := by decide +kernel
theorem dX10_parse_26 : decode cX10_parse 26 = .ok (.aload_n 0, 1) := by decide +kernel
theorem dX10_parse_27 : decode cX10_parse 27 = .ok (.iconst 0, 1) := by decide +kernel
theorem dX10_parse_28 : decode cX10_parse 28 = .ok (.putfield 62, 3) := by decide +kernel
theorem dX10_parse_31 : decode cX10_parse 31 = .ok (.aload_n 0, 1) := by decide +kernel
theorem dX10_parse_32 : decode cX10_parse 32 = .ok (.iconst 0, 1) := by decide +kernel
theorem dX10_parse_33 : decode cX10_parse 33 = .ok (.putfield 72, 3) := by decide +kernel
theorem dX10_parse_36 : decode cX10_parse 36 = .ok (.aload_n 0, 1) := by decide +kernel
theorem dX10_parse_37 : decode cX10_parse 37 = .ok (.iconst 0, 1) := by decide +kernel
theorem dX10_parse_38 : decode cX10_parse 38 = .ok (.putfield 100, 3) := by decide +kernel
theorem dX10_parse_41 : decode cX10_parse 41 = .ok (.aload_n 0, 1) := by decide +kernel
theorem dX10_parse_42 : decode cX10_parse 42 = .ok (.iconst 0, 1) := by decide +kernel
theorem dX10_parse_43 : decode cX10_parse 43 = .ok (.putfield 126, 3) := by decide +kernel
theorem dX10_parse_46 : decode cX10_parse 46 = .ok (.aload_n 0, 1) := by decide +kernel
theorem dX10_parse_47 : decode cX10_parse 47 = .ok (.getfield 17, 3) := by decide +kernel
theorem dX10_parse_50 : decode cX10_parse 50 = .ok (.iconst 0, 1) := by decide +kernel
theorem dX10_parse_51 : decode cX10_parse 51 = .ok (.iconst 0, 1) := by decide +kernel
theorem dX10_parse_52 : decode cX10_parse 52 = .ok (.iastore, 1) := by decide +kernel
theorem dX10_parse_53 : decode cX10_parse 53 = .ok (.aload_n 0, 1) := by decide +kernel
theorem dX10_parse_54 : decode cX10_parse 54 = .ok (.getfield 17, 3) := by decide +kernel
theorem dX10_parse_57 : decode cX10_parse 57 = .ok (.iconst 1, 1) := by decide +kernel
theorem dX10_parse_58 : decode cX10_parse 58 = .ok (.iconst 0, 1) := by decide +kernel
theorem dX10_parse_59 : decode cX10_parse 59 = .ok (.iastore, 1) := by decide +kernel
theorem dX10_parse_60 : decode cX10_parse 60 = .ok (.aload_n 0, 1) := by decide +kernel
theorem dX10_parse_61 : decode cX10_parse 61 = .ok (.getfield 17, 3) := by decide +kernel
theorem dX10_parse_64 : decode cX10_parse 64 = .ok (.iconst 2, 1) := by decide +kernel
theorem dX10_parse_65 : decode cX10_parse 65 = .ok (.iconst 0, 1) := by decide +kernel
theorem dX10_parse_66 : decode cX10_parse 66 = .ok (.iastore, 1) := by decide +kernel
theorem dX10_parse_67 : decode cX10_parse 67 = .ok (.aload_n 0, 1) := by decide +kernel
theorem dX10_parse_68 : decode cX10_parse 68 = .ok (.getfield 17, 3) := by decide +kernel
theorem dX10_parse_71 : decode cX10_parse 71 = .ok (.iconst 3, 1) := by decide +kernel
theorem dX10_parse_72 : decode cX10_parse 72 = .ok (.sipush 4000, 3) := by decide +kernel
theorem dX10_parse_75 : decode cX10_parse 75 = .ok (.iastore, 1) := by decide +kernel
theorem dX10_parse_76 : decode cX10_parse 76 = .ok (.aload_n 0, 1) := by decide +kernel
theorem dX10_parse_77 : decode cX10_parse 77 = .ok (.getfield 17, 3) := by decide +kernel
theorem dX10_parse_80 : decode cX10_parse 80 = .ok (.iconst 4, 1) := by decide +kernel
theorem dX10_parse_81 : decode cX10_parse 81 = .ok (.iconst 5, 1) := by decide +kernel
theorem dX10_parse_82 : decode cX10_parse 82 = .ok (.iastore, 1) := by decide +kernel
theorem dX10_parse_83 : decode cX10_parse 83 = .ok (.aload_n 0, 1) := by decide +kernel
theorem dX10_parse_84 : decode cX10_parse 84 = .ok (.getfield 17, 3) := by decide +kernel
theorem dX10_parse_87 : decode cX10_parse 87 = .ok (.iconst 5, 1) := by decide +kernel
theorem dX10_parse_88 : decode cX10_parse 88 = .ok (.bipush 100, 2) := by decide +kernel
theorem dX10_parse_90 : decode cX10_parse 90 = .ok (.iastore, 1) := by decide +kernel
theorem dX10_parse_91 : decode cX10_parse 91 = .ok (.aload_n 0, 1) := by decide +kernel
theorem dX10_parse_92 : decode cX10_parse 92 = .ok (.invokevirtual 119, 3) := by decide +kernel
theorem dX10_parse_95 : decode cX10_parse 95 = .ok (.aload_n 0, 1) := by decide +kernel
theorem dX10_parse_96 : decode cX10_parse 96 = .ok (.getfield 100, 3) := by decide +kernel
theorem dX10_parse_99 : decode cX10_parse 99 = .ok (.ifCond .ne 43, 3) := by decide +kernel
theorem dX10_parse_102 : decode cX10_parse 102 = .ok (.aload_n 0, 1) := by decide +kernel
theorem dX10_parse_103 : decode cX10_parse 103 = .ok (.getfield 82, 3) := by decide +kernel
theorem dX10_parse_106 : decode cX10_parse 106 = .ok (.ifCond .eq 36, 3) := by decide +kernel
theorem dX10_parse_109 : decode cX10_parse 109 = .ok (.aload_n 0, 1) := by decide +kernel
theorem dX10_parse_110 : decode cX10_parse 110 = .ok (.invokevirtual 153, 3) := by decide +kernel
theorem dX10_parse_113 : decode cX10_parse 113 = .ok (.aload_n 0, 1) := by decide +kernel
theorem dX10_parse_114 : decode cX10_parse 114 = .ok (.aload_n 0, 1) := by decide +kernel
theorem dX10_parse_115 : decode cX10_parse 115 = .ok (.getfield 82, 3) := by decide +kernel
theorem dX10_parse_118 : decode cX10_parse 118 = .ok (.bipush 59, 2) := by decide +kernel
theorem dX10_parse_120 : decode cX10_parse 120 = .ok (.if_icmp .ne 7, 3) := by decide +kernel
theorem dX10_parse_123 : decode cX10_parse 123 = .ok (.iconst 1, 1) := by decide +kernel
theorem dX10_parse_124 : decode cX10_parse 124 = .ok (.goto 4, 3) := by decide +kernel
theorem dX10_parse_127 : decode cX10_parse 127 = .ok (.iconst 0, 1) := by decide +kernel
theorem dX10_parse_128 : decode cX10_parse 128 = .ok (.iconst 1, 1) := by decide +kernel
theorem dX10_parse_129 : decode cX10_parse 129 = .ok (.invokevirtual 115, 3) := by decide +kernel
theorem dX10_parse_132 : decode cX10_parse 132 = .ok (.ifCond .eq (-37), 3) := by decide +kernel
theorem dX10_parse_135 : decode cX10_parse 135 = .ok (.aload_n 0, 1) := by decide +kernel
theorem dX10_parse_136 : decode cX10_parse 136 = .ok (.invokevirtual 119, 3) := by decide +kernel
theorem dX10_parse_139 : decode cX10_parse 139 = .ok (.goto (-44), 3) := by decide +kernel
theorem dX10_parse_142 : decode cX10_parse 142 = .ok (.aload_n 0, 1) := by decide +kernel
theorem dX10_parse_143 : decode cX10_parse 143 = .ok (.getfield 100, 3) := by decide +kernel
theorem dX10_parse_146 : decode cX10_parse 146 = .ok (.ifCond .eq 19, 3) := by decide +kernel
theorem dX10_parse_149 : decode cX10_parse 149 = .ok (.bipush (-2), 2) := by decide +kernel
theorem dX10_parse_151 : decode cX10_parse 151 = .ok (.bipush 8, 2) := by decide +kernel
theorem dX10_parse_153 : decode cX10_parse 153 = .ok (.aload_n 0, 1) := by decide +kernel
theorem dX10_parse_154 : decode cX10_parse 154 = .ok (.getfield 103, 3) := by decide +kernel
theorem dX10_parse_157 : decode cX10_parse 157 = .ok (.imul, 1) := by decide +kernel
theorem dX10_parse_158 : decode cX10_parse 158 = .ok (.aload_n 0, 1) := by decide +kernel
theorem dX10_parse_159 : decode cX10_parse 159 = .ok (.getfield 100, 3) := by decide +kernel
theorem dX10_parse_162 : decode cX10_parse 162 = .ok (.iadd, 1) := by decide +kernel
theorem dX10_parse_163 : decode cX10_parse 163 = .ok (.isub, 1) := by decide +kernel
theorem dX10_parse_164 : decode cX10_parse 164 = .ok (.ireturn, 1) := by decide +kernel
theorem dX10_parse_165 : decode cX10_parse 165 = .ok (.iconst 0, 1) := by decide +kernel
theorem dX10_parse_166 : decode cX10_parse 166 = .ok (.istore_n 2, 1) := by decide +kernel
theorem dX10_parse_167 : decode cX10_parse 167 = .ok (.iload_n 2, 1) := by decide +kernel
theorem dX10_parse_168 : decode cX10_parse 168 = .ok (.bipush 6, 2) := by decide +kernel
theorem dX10_parse_170 : decode cX10_parse 170 = .ok (.if_icmp .ge 21, 3) := by decide +kernel
theorem dX10_parse_173 : decode cX10_parse 173 = .ok (.aload_n 0, 1) := by decide +kernel
theorem dX10_parse_174 : decode cX10_parse 174 = .ok (.getfield 13, 3) := by decide +kernel
theorem dX10_parse_177 : decode cX10_parse 177 = .ok (.iload_n 2, 1) := by decide +kernel
theorem dX10_parse_178 : decode cX10_parse 178 = .ok (.aload_n 0, 1) := by decide +kernel
theorem dX10_parse_179 : decode cX10_parse 179 = .ok (.getfield 17, 3) := by decide +kernel
theorem dX10_parse_182 : decode cX10_parse 182 = .ok (.iload_n 2, 1) := by decide +kernel
theorem dX10_parse_183 : decode cX10_parse 183 = .ok (.iaload, 1) := by decide +kernel
theorem dX10_parse_184 : decode cX10_parse 184 = .ok (.iastore, 1) := by decide +kernel
theorem dX10_parse_185 : decode cX10_parse 185 = .ok (.iinc 2 1, 3) := by decide +kernel
theorem dX10_parse_188 : decode cX10_parse 188 = .ok (.goto (-21), 3) := by decide +kernel
theorem dX10_parse_191 : decode cX10_parse 191 = .ok (.aload_n 0, 1) := by decide +kernel
theorem dX10_parse_192 : decode cX10_parse 192 = .ok (.getfield 20, 3) := by decide +kernel
theorem dX10_parse_195 : decode cX10_parse 195 = .ok (.invokestatic 156, 3) := by decide +kernel
theorem dX10_parse_198 : decode cX10_parse 198 = .ok (.aload_n 0, 1) := by decide +kernel
theorem dX10_parse_199 : decode cX10_parse 199 = .ok (.getfield 23, 3) := by decide +kernel
theorem dX10_parse_202 : decode cX10_parse 202 = .ok (.invokestatic 156, 3) := by decide +kernel
theorem dX10_parse_205 : decode cX10_parse 205 = .ok (.aload_n 0, 1) := by decide +kernel
theorem dX10_parse_206 : decode cX10_parse 206 = .ok (.getfield 26, 3) := by decide +kernel
theorem dX10_parse_209 : decode cX10_parse 209 = .ok (.invokestatic 156, 3) := by decide +kernel
theorem dX10_parse_212 : decode cX10_parse 212 = .ok (.aload_n 0, 1) := by decide +kernel
theorem dX10_parse_213 : decode cX10_parse 213 = .ok (.invokevirtual 55, 3) := by decide +kernel
theorem dX10_parse_216 : decode cX10_parse 216 = .ok (.aload_n 0, 1) := by decide +kernel
theorem dX10_parse_217 : decode cX10_parse 217 = .ok (.iconst 0, 1) := by decide +kernel
theorem dX10_parse_218 : decode cX10_parse 218 = .ok (.putfield 160, 3) := by decide +kernel
theorem dX10_parse_221 : decode cX10_parse 221 = .ok (.aload_n 0, 1) := by decide +kernel
theorem dX10_parse_222 : decode cX10_parse 222 = .ok (.getfield 38, 3) := by decide +kernel
theorem dX10_parse_225 : decode cX10_parse 225 = .ok (.iconst 0, 1) := by decide +kernel
theorem dX10_parse_226 : decode cX10_parse 226 = .ok (.iconst 0, 1) := by decide +kernel
theorem dX10_parse_227 : decode cX10_parse 227 = .ok (.bastore, 1) := by decide +kernel
theorem dX10_parse_228 : decode cX10_parse 228 = .ok (.aload_n 0, 1) := by decide +kernel
theorem dX10_parse_229 : decode cX10_parse 229 = .ok (.getfield 38, 3) := by decide +kernel
theorem dX10_parse_232 : decode cX10_parse 232 = .ok (.iconst 1, 1) := by decide +kernel
theorem dX10_parse_233 : decode cX10_parse 233 = .ok (.iconst 0, 1) := by decide +kernel
theorem dX10_parse_234 : decode cX10_parse 234 = .ok (.bastore, 1) := by decide +kernel
theorem dX10_parse_235 : decode cX10_parse 235 = .ok (.aload_n 0, 1) := by decide +kernel
theorem dX10_parse_236 : decode cX10_parse 236 = .ok (.getfield 13, 3) := by decide +kernel
theorem dX10_parse_239 : decode cX10_parse 239 = .ok (.iconst 0, 1) := by decide +kernel
theorem dX10_parse_240 : decode cX10_parse 240 = .ok (.iaload, 1) := by decide +kernel
theorem dX10_parse_241 : decode cX10_parse 241 = .ok (.ireturn, 1) := by decide +kernel
def fn_X10_parse_167 (N : Nat) : Nat → Mem → Nat → Int32 → Option (Int32 × Mem)
  | 0, _, _, _ => none
  | n + 1, M, a0, x2 =>
    if 6 ≤ x2 then
      (mm_gR M a0 10 12).bind fun b1 =>
      mm_b2 (fn_X10_adopt N M b1) fun _ M2 =>
      (mm_gR M2 a0 10 13).bind fun b3 =>
      mm_b2 (fn_X10_adopt N M2 b3) fun _ M4 =>
      (mm_gR M4 a0 10 14).bind fun b5 =>
      mm_b2 (fn_X10_adopt N M4 b5) fun _ M6 =>
      (mm_ck M6 a0 10).bind fun _ => mm_b2 (fn_X10_clearState N M6 a0) fun _ M7 =>
      (mm_pV M7 a0 10 18 (.int 0)).bind fun M8 =>
      (mm_gR M8 a0 10 20).bind fun b9 =>
      (mm_sI M8 b9 3 0 (vp_nar .boolean 0)).bind fun M10 =>
      (mm_gR M10 a0 10 20).bind fun b11 =>
      (mm_sI M10 b11 3 1 (vp_nar .boolean 0)).bind fun M12 =>
      (mm_gR M12 a0 10 10).bind fun b13 =>
      (mm_aI M12 b13 0 0).bind fun v14 =>
      some (v14, M12)
    else
      (mm_gR M a0 10 10).bind fun b15 =>
      (mm_gR M a0 10 11).bind fun b16 =>
      (mm_aI M b16 0 x2).bind fun v17 =>
      (mm_sI M b15 0 x2 v17).bind fun M18 =>
      fn_X10_parse_167 N n M18 a0 ((x2 + 1))
set_option maxRecDepth 100000 in
set_option maxHeartbeats 4000000 in
theorem bk_X10_parse_167 {Γ : Gm} {ω : Wd} {k N : Nat} {r : Int32} {M' : Mem} (C : Cx Γ cX10_parse 3 RX10 ω 6 0 0) (hr : Γ.meth.sig.returnType = (some .int)) : ∀ (n : Nat) (M : Mem) (a0 : Nat) (x2 : Int32), fn_X10_parse_167 N n M a0 x2 = some (r, M') → JJ Γ (QF Γ ω k 0 0 (some (.int r)) M') 3 ω k M 0 0 167 [(0, .ref a0), (2, .int x2)] [] := by
  intro n
  induction n with
  | zero => intro M a0 x2 h; exact jv_no h
  | succ n ih =>
    intro M a0 x2 h
    rw [fn_X10_parse_167.eq_2] at h
    refine jv_iload_n C dX10_parse_167 rfl 1 rfl ?_
    refine jv_bipush (v := 6) C dX10_parse_168 (by decide) ?_
    refine jv_icmp_ge (tgt := 191) C dX10_parse_170 (by decide) h (fun h => ?_) (fun h => ?_)
    · refine jv_aload_n C dX10_parse_191 rfl 0 rfl ?_
      refine jv_getR C fa_X10_20 dX10_parse_192 h (fun b1 h => ?_)
      refine jv_sV0 (As := [.ref b1]) C lk_X10_156 dX10_parse_195 rfl rfl (by decide) (by decide) (by decide) (Nat.le_of_ble_eq_true rfl) h (fun _ _ h => ct_X10_adopt h) (fun _ M2 h => ?_)
      refine jv_aload_n C dX10_parse_198 rfl 0 rfl ?_
      refine jv_getR C fa_X10_23 dX10_parse_199 h (fun b3 h => ?_)
      refine jv_sV0 (As := [.ref b3]) C lk_X10_156 dX10_parse_202 rfl rfl (by decide) (by decide) (by decide) (Nat.le_of_ble_eq_true rfl) h (fun _ _ h => ct_X10_adopt h) (fun _ M4 h => ?_)
      refine jv_aload_n C dX10_parse_205 rfl 0 rfl ?_
      refine jv_getR C fa_X10_26 dX10_parse_206 h (fun b5 h => ?_)
      refine jv_sV0 (As := [.ref b5]) C lk_X10_156 dX10_parse_209 rfl rfl (by decide) (by decide) (by decide) (Nat.le_of_ble_eq_true rfl) h (fun _ _ h => ct_X10_adopt h) (fun _ M6 h => ?_)
      refine jv_aload_n C dX10_parse_212 rfl 0 rfl ?_
      refine jv_vV0 (As := []) C lk_X10_55 rfl dX10_parse_213 rfl rfl (by decide) (by decide) (by decide) (Nat.le_of_ble_eq_true rfl) h (fun _ _ h => ct_X10_clearState h) (fun _ M7 h => ?_)
      refine jv_aload_n C dX10_parse_216 rfl 0 rfl ?_
      refine jv_iconst (v := 0) C dX10_parse_217 (by decide) ?_
      refine jv_putI C fp_X10_160 dX10_parse_218 h (fun M8 h => ?_)
      refine jv_aload_n C dX10_parse_221 rfl 0 rfl ?_
      refine jv_getR C fa_X10_38 dX10_parse_222 h (fun b9 h => ?_)
      refine jv_iconst (v := 0) C dX10_parse_225 (by decide) ?_
      refine jv_iconst (v := 0) C dX10_parse_226 (by decide) ?_
      refine jv_zast C dX10_parse_227 h (fun M10 h => ?_)
      refine jv_aload_n C dX10_parse_228 rfl 0 rfl ?_
      refine jv_getR C fa_X10_38 dX10_parse_229 h (fun b11 h => ?_)
      refine jv_iconst (v := 1) C dX10_parse_232 (by decide) ?_
      refine jv_iconst (v := 0) C dX10_parse_233 (by decide) ?_
      refine jv_zast C dX10_parse_234 h (fun M12 h => ?_)
      refine jv_aload_n C dX10_parse_235 rfl 0 rfl ?_
      refine jv_getR C fa_X10_13 dX10_parse_236 h (fun b13 h => ?_)
      refine jv_iconst (v := 0) C dX10_parse_239 (by decide) ?_
      refine jv_iald C dX10_parse_240 h (fun v14 h => ?_)
      exact jv_iret C hr dX10_parse_241 h
    · refine jv_aload_n C dX10_parse_173 rfl 0 rfl ?_
      refine jv_getR C fa_X10_13 dX10_parse_174 h (fun b15 h => ?_)
      refine jv_iload_n C dX10_parse_177 rfl 1 rfl ?_
      refine jv_aload_n C dX10_parse_178 rfl 0 rfl ?_
      refine jv_getR C fa_X10_17 dX10_parse_179 h (fun b16 h => ?_)
      refine jv_iload_n C dX10_parse_182 rfl 1 rfl ?_
      refine jv_iald C dX10_parse_183 h (fun v17 h => ?_)
      refine jv_iast C dX10_parse_184 h (fun M18 h => ?_)
      refine jv_iinc (v := 1) (lv' := [(2, .int (x2 + 1)), (0, .ref a0)]) C dX10_parse_185 1 rfl (by decide) (by decide) rfl ?_
      refine jv_goto (tgt := 167) C dX10_parse_188 (by decide) ?_
      refine jv_sub [1, 0] rfl ?_
      exact ih _ _ _ h
def fn_X10_parse_142 (N : Nat) (M : Mem) (a0 : Nat) : Option (Int32 × Mem) :=
  (mm_gI M a0 10 8).bind fun v1 =>
  if v1 = 0 then
    fn_X10_parse_167 N N M a0 0
  else
    (mm_gI M a0 10 9).bind fun v2 =>
    (mm_gI M a0 10 8).bind fun v3 =>
    some (((-2) - ((8 * v2) + v3)), M)
set_option maxRecDepth 100000 in
set_option maxHeartbeats 4000000 in
theorem bk_X10_parse_142 {Γ : Gm} {ω : Wd} {k N : Nat} {r : Int32} {M' : Mem} (C : Cx Γ cX10_parse 3 RX10 ω 6 0 0) (hr : Γ.meth.sig.returnType = (some .int)) (M : Mem) (a0 : Nat) (h : fn_X10_parse_142 N M a0 = some (r, M')) : JJ Γ (QF Γ ω k 0 0 (some (.int r)) M') 3 ω k M 0 0 142 [(0, .ref a0)] [] := by
  unfold fn_X10_parse_142 at h
  refine jv_aload_n C dX10_parse_142 rfl 0 rfl ?_
  refine jv_getI C fa_X10_100 dX10_parse_143 h (fun v1 h => ?_)
  refine jv_if_eq (tgt := 165) C dX10_parse_146 (by decide) h (fun h => ?_) (fun h => ?_)
  · refine jv_iconst (v := 0) C dX10_parse_165 (by decide) ?_
    refine jv_istore_n (lv' := [(2, .int 0), (0, .ref a0)]) C dX10_parse_166 rfl (by decide) rfl ?_
    refine jv_sub [1, 0] rfl ?_
    exact bk_X10_parse_167 C hr _ _ _ _ h
  · refine jv_bipush (v := (-2)) C dX10_parse_149 (by decide) ?_
    refine jv_bipush (v := 8) C dX10_parse_151 (by decide) ?_
    refine jv_aload_n C dX10_parse_153 rfl 0 rfl ?_
    refine jv_getI C fa_X10_103 dX10_parse_154 h (fun v2 h => ?_)
    refine jv_imul C dX10_parse_157 ?_
    refine jv_aload_n C dX10_parse_158 rfl 0 rfl ?_
    refine jv_getI C fa_X10_100 dX10_parse_159 h (fun v3 h => ?_)
    refine jv_iadd C dX10_parse_162 ?_
    refine jv_isub C dX10_parse_163 ?_
    exact jv_iret C hr dX10_parse_164 h
def fn_X10_parse_128 (N : Nat) (K95 : Mem → Nat → Option (Int32 × Mem)) (M : Mem) (a0 : Nat) (s0 : Int32) (s1 : Nat) : Option (Int32 × Mem) :=
  (mm_ck M s1 10).bind fun _ => mm_b2 (fn_X10_must N M s1 s0 1) fun v2 M1 =>
  if v2 = 0 then
    K95 M1 a0
  else
    (mm_ck M1 a0 10).bind fun _ => mm_b2 (fn_X10_nextToken N M1 a0) fun _ M3 =>
    K95 M3 a0
set_option maxRecDepth 100000 in
set_option maxHeartbeats 4000000 in
theorem bk_X10_parse_128 {Γ : Gm} {ω : Wd} {k N : Nat} {r : Int32} {M' : Mem} (C : Cx Γ cX10_parse 3 RX10 ω 6 0 0) (hr : Γ.meth.sig.returnType = (some .int)) {K95 : Mem → Nat → Option (Int32 × Mem)} (hK95 : ∀ (M : Mem) (a0 : Nat), K95 M a0 = some (r, M') → JJ Γ (QF Γ ω k 0 0 (some (.int r)) M') 3 ω k M 0 0 95 [(0, .ref a0)] []) (M : Mem) (a0 : Nat) (s0 : Int32) (s1 : Nat) (h : fn_X10_parse_128 N K95 M a0 s0 s1 = some (r, M')) : JJ Γ (QF Γ ω k 0 0 (some (.int r)) M') 3 ω k M 0 0 128 [(0, .ref a0)] [.int s0, .ref s1] := by
  unfold fn_X10_parse_128 at h
  refine jv_iconst (v := 1) C dX10_parse_128 (by decide) ?_
  refine jv_vI0 (As := [.int s0, .int 1]) C lk_X10_115 rfl dX10_parse_129 rfl rfl (by decide) (by decide) (by decide) (Nat.le_of_ble_eq_true rfl) h (fun _ _ h => ct_X10_must h) (fun v2 M1 h => ?_)
  refine jv_if_eq (tgt := 95) C dX10_parse_132 (by decide) h (fun h => ?_) (fun h => ?_)
  · exact hK95 _ _ h
  · refine jv_aload_n C dX10_parse_135 rfl 0 rfl ?_
    refine jv_vV0 (As := []) C lk_X10_119 rfl dX10_parse_136 rfl rfl (by decide) (by decide) (by decide) (Nat.le_of_ble_eq_true rfl) h (fun _ _ h => ct_X10_nextToken h) (fun _ M3 h => ?_)
    refine jv_goto (tgt := 95) C dX10_parse_139 (by decide) ?_
    exact hK95 _ _ h
def fn_X10_parse_95 (N : Nat) : Nat → Mem → Nat → Option (Int32 × Mem)
  | 0, _, _ => none
  | n + 1, M, a0 =>
    (mm_gI M a0 10 8).bind fun v1 =>
    if v1 = 0 then
      (mm_gI M a0 10 6).bind fun v2 =>
      if v2 = 0 then
        fn_X10_parse_142 N M a0
      else
        (mm_ck M a0 10).bind fun _ => mm_b2 (fn_X10_statement N M a0) fun _ M3 =>
        (mm_gI M3 a0 10 6).bind fun v4 =>
        if v4 = 59 then
          fn_X10_parse_128 N (fn_X10_parse_95 N n) M3 a0 1 a0
        else
          fn_X10_parse_128 N (fn_X10_parse_95 N n) M3 a0 0 a0
    else
      fn_X10_parse_142 N M a0
set_option maxRecDepth 100000 in
set_option maxHeartbeats 4000000 in
theorem bk_X10_parse_95 {Γ : Gm} {ω : Wd} {k N : Nat} {r : Int32} {M' : Mem} (C : Cx Γ cX10_parse 3 RX10 ω 6 0 0) (hr : Γ.meth.sig.returnType = (some .int)) : ∀ (n : Nat) (M : Mem) (a0 : Nat), fn_X10_parse_95 N n M a0 = some (r, M') → JJ Γ (QF Γ ω k 0 0 (some (.int r)) M') 3 ω k M 0 0 95 [(0, .ref a0)] [] := by
  intro n
  induction n with
  | zero => intro M a0 h; exact jv_no h
  | succ n ih =>
    intro M a0 h
    rw [fn_X10_parse_95.eq_2] at h
    refine jv_aload_n C dX10_parse_95 rfl 0 rfl ?_
    refine jv_getI C fa_X10_100 dX10_parse_96 h (fun v1 h => ?_)
    refine jv_if_ne (tgt := 142) C dX10_parse_99 (by decide) h (fun h => ?_) (fun h => ?_)
    · exact bk_X10_parse_142 C hr _ _ h
    · refine jv_aload_n C dX10_parse_102 rfl 0 rfl ?_
      refine jv_getI C fa_X10_82 dX10_parse_103 h (fun v2 h => ?_)
      refine jv_if_eq (tgt := 142) C dX10_parse_106 (by decide) h (fun h => ?_) (fun h => ?_)
      · exact bk_X10_parse_142 C hr _ _ h
      · refine jv_aload_n C dX10_parse_109 rfl 0 rfl ?_
        refine jv_vV0 (As := []) C lk_X10_153 rfl dX10_parse_110 rfl rfl (by decide) (by decide) (by decide) (Nat.le_of_ble_eq_true rfl) h (fun _ _ h => ct_X10_statement h) (fun _ M3 h => ?_)
        refine jv_aload_n C dX10_parse_113 rfl 0 rfl ?_
        refine jv_aload_n C dX10_parse_114 rfl 0 rfl ?_
        refine jv_getI C fa_X10_82 dX10_parse_115 h (fun v4 h => ?_)
        refine jv_bipush (v := 59) C dX10_parse_118 (by decide) ?_
        refine jv_icmp_ne (tgt := 127) C dX10_parse_120 (by decide) h (fun h => ?_) (fun h => ?_)
        · refine jv_iconst (v := 0) C dX10_parse_127 (by decide) ?_
          exact bk_X10_parse_128 C hr ih _ _ _ _ h
        · refine jv_iconst (v := 1) C dX10_parse_123 (by decide) ?_
          refine jv_goto (tgt := 128) C dX10_parse_124 (by decide) ?_
          exact bk_X10_parse_128 C hr ih _ _ _ _ h
def fn_X10_parse (N : Nat) (M : Mem) (a0 : Nat) (x1 : Int32) : Option (Int32 × Mem) :=
  (mm_pV M a0 10 0 (.int 0)).bind fun M1 =>
  (mm_gI M1 a0 10 2).bind fun v2 =>
  mm_b2 (fn_X10_within N M1 ((Int32.toInt64 x1)) 0 ((Int32.toInt64 v2))) fun v4 M3 =>
  if v4 = 0 then
    some ((-1), M3)
  else
    (mm_pV M3 a0 10 3 (.int x1)).bind fun M5 =>
    (mm_pV M5 a0 10 2 (.int 0)).bind fun M6 =>
    (mm_pV M6 a0 10 5 (.int 0)).bind fun M7 =>
    (mm_pV M7 a0 10 8 (.int 0)).bind fun M8 =>
    (mm_pV M8 a0 10 15 (.int 0)).bind fun M9 =>
    (mm_gR M9 a0 10 11).bind fun b10 =>
    (mm_sI M9 b10 0 0 0).bind fun M11 =>
    (mm_gR M11 a0 10 11).bind fun b12 =>
    (mm_sI M11 b12 0 1 0).bind fun M13 =>
    (mm_gR M13 a0 10 11).bind fun b14 =>
    (mm_sI M13 b14 0 2 0).bind fun M15 =>
    (mm_gR M15 a0 10 11).bind fun b16 =>
    (mm_sI M15 b16 0 3 4000).bind fun M17 =>
    (mm_gR M17 a0 10 11).bind fun b18 =>
    (mm_sI M17 b18 0 4 5).bind fun M19 =>
    (mm_gR M19 a0 10 11).bind fun b20 =>
    (mm_sI M19 b20 0 5 100).bind fun M21 =>
    (mm_ck M21 a0 10).bind fun _ => mm_b2 (fn_X10_nextToken N M21 a0) fun _ M22 =>
    fn_X10_parse_95 N N M22 a0
set_option maxRecDepth 100000 in
set_option maxHeartbeats 4000000 in
theorem ct_X10_parse {l : Launch} {ω : Wd} {k N : Nat} {M : Mem} {a0 : Nat} {x1 : Int32} {r : Int32} {M' : Mem} (h : fn_X10_parse N M a0 x1 = some (r, M')) : CM l ω k yX10_parse cX10_parse 3 (some .int) 6 0 0 [.ref a0, .int x1] M (some (.int r)) M' := by
  refine CM.of (by decide) (Nat.le_of_ble_eq_true rfl) fun Γ hl C hr hi => ?_
  subst hl
  unfold fn_X10_parse at h
  refine jv_aload_n C dX10_parse_0 rfl 0 rfl ?_
  refine jv_iconst (v := 0) C dX10_parse_1 (by decide) ?_
  refine jv_putI C fp_X10_58 dX10_parse_2 h (fun M1 h => ?_)
  refine jv_iload_n C dX10_parse_5 rfl 1 rfl ?_
  refine jv_i2l C dX10_parse_6 ?_
  refine jv_lconst (v := 0) C dX10_parse_7 (by decide) ?_
  refine jv_aload_n C dX10_parse_8 rfl 0 rfl ?_
  refine jv_getI C fa_X10_62 dX10_parse_9 h (fun v2 h => ?_)
  refine jv_i2l C dX10_parse_12 ?_
  refine jv_sI0 (As := [.long (Int32.toInt64 x1), .long 0, .long (Int32.toInt64 v2)]) C lk_X10_89 dX10_parse_13 rfl rfl (by decide) (by decide) (by decide) (Nat.le_of_ble_eq_true rfl) h (fun _ _ h => ct_X10_within h) (fun v4 M3 h => ?_)
  refine jv_if_ne (tgt := 21) C dX10_parse_16 (by decide) h (fun h => ?_) (fun h => ?_)
  · refine jv_aload_n C dX10_parse_21 rfl 0 rfl ?_
    refine jv_iload_n C dX10_parse_22 rfl 1 rfl ?_
    refine jv_putI C fp_X10_69 dX10_parse_23 h (fun M5 h => ?_)
    refine jv_aload_n C dX10_parse_26 rfl 0 rfl ?_
    refine jv_iconst (v := 0) C dX10_parse_27 (by decide) ?_
    refine jv_putI C fp_X10_62 dX10_parse_28 h (fun M6 h => ?_)
    refine jv_aload_n C dX10_parse_31 rfl 0 rfl ?_
    refine jv_iconst (v := 0) C dX10_parse_32 (by decide) ?_
    refine jv_putI C fp_X10_72 dX10_parse_33 h (fun M7 h => ?_)
    refine jv_aload_n C dX10_parse_36 rfl 0 rfl ?_
    refine jv_iconst (v := 0) C dX10_parse_37 (by decide) ?_
    refine jv_putI C fp_X10_100 dX10_parse_38 h (fun M8 h => ?_)
    refine jv_aload_n C dX10_parse_41 rfl 0 rfl ?_
    refine jv_iconst (v := 0) C dX10_parse_42 (by decide) ?_
    refine jv_putI C fp_X10_126 dX10_parse_43 h (fun M9 h => ?_)
    refine jv_aload_n C dX10_parse_46 rfl 0 rfl ?_
    refine jv_getR C fa_X10_17 dX10_parse_47 h (fun b10 h => ?_)
    refine jv_iconst (v := 0) C dX10_parse_50 (by decide) ?_
    refine jv_iconst (v := 0) C dX10_parse_51 (by decide) ?_
    refine jv_iast C dX10_parse_52 h (fun M11 h => ?_)
    refine jv_aload_n C dX10_parse_53 rfl 0 rfl ?_
    refine jv_getR C fa_X10_17 dX10_parse_54 h (fun b12 h => ?_)
    refine jv_iconst (v := 1) C dX10_parse_57 (by decide) ?_
    refine jv_iconst (v := 0) C dX10_parse_58 (by decide) ?_
    refine jv_iast C dX10_parse_59 h (fun M13 h => ?_)
    refine jv_aload_n C dX10_parse_60 rfl 0 rfl ?_
    refine jv_getR C fa_X10_17 dX10_parse_61 h (fun b14 h => ?_)
    refine jv_iconst (v := 2) C dX10_parse_64 (by decide) ?_
    refine jv_iconst (v := 0) C dX10_parse_65 (by decide) ?_
    refine jv_iast C dX10_parse_66 h (fun M15 h => ?_)
    refine jv_aload_n C dX10_parse_67 rfl 0 rfl ?_
    refine jv_getR C fa_X10_17 dX10_parse_68 h (fun b16 h => ?_)
    refine jv_iconst (v := 3) C dX10_parse_71 (by decide) ?_
    refine jv_sipush (v := 4000) C dX10_parse_72 (by decide) ?_
    refine jv_iast C dX10_parse_75 h (fun M17 h => ?_)
    refine jv_aload_n C dX10_parse_76 rfl 0 rfl ?_
    refine jv_getR C fa_X10_17 dX10_parse_77 h (fun b18 h => ?_)
    refine jv_iconst (v := 4) C dX10_parse_80 (by decide) ?_
    refine jv_iconst (v := 5) C dX10_parse_81 (by decide) ?_
    refine jv_iast C dX10_parse_82 h (fun M19 h => ?_)
    refine jv_aload_n C dX10_parse_83 rfl 0 rfl ?_
    refine jv_getR C fa_X10_17 dX10_parse_84 h (fun b20 h => ?_)
    refine jv_iconst (v := 5) C dX10_parse_87 (by decide) ?_
    refine jv_bipush (v := 100) C dX10_parse_88 (by decide) ?_
    refine jv_iast C dX10_parse_90 h (fun M21 h => ?_)
    refine jv_aload_n C dX10_parse_91 rfl 0 rfl ?_
    refine jv_vV0 (As := []) C lk_X10_119 rfl dX10_parse_92 rfl rfl (by decide) (by decide) (by decide) (Nat.le_of_ble_eq_true rfl) h (fun _ _ h => ct_X10_nextToken h) (fun _ M22 h => ?_)
    refine jv_sub [0] rfl ?_
    exact bk_X10_parse_95 C hr _ _ _ h
  · refine jv_iconst (v := (-1)) C dX10_parse_19 (by decide) ?_
    exact jv_iret C hr dX10_parse_20 h
theorem dX10_payoutCoins_0 : decode cX10_payoutCoins 0 = .ok (.aload_n 0, 1) := by decide +kernel
theorem dX10_payoutCoins_1 : decode cX10_payoutCoins 1 = .ok (.iconst 0, 1) := by decide +kernel
theorem dX10_payoutCoins_2 : decode cX10_payoutCoins 2 = .ok (.putfield 58, 3) := by decide +kernel
theorem dX10_payoutCoins_5 : decode cX10_payoutCoins 5 = .ok (.iload_n 1, 1) := by decide +kernel
theorem dX10_payoutCoins_6 : decode cX10_payoutCoins 6 = .ok (.invokestatic 254, 3) := by decide +kernel
theorem dX10_payoutCoins_9 : decode cX10_payoutCoins 9 = .ok (.ifCond .ne 5, 3) := by decide +kernel
theorem dX10_payoutCoins_12 : decode cX10_payoutCoins 12 = .ok (.iconst (-1), 1) := by decide +kernel
theorem dX10_payoutCoins_13 : decode cX10_payoutCoins 13 = .ok (.ireturn, 1) := by decide +kernel
theorem dX10_payoutCoins_14 : decode cX10_payoutCoins 14 = .ok (.aload_n 0, 1) := by decide +kernel
theorem dX10_payoutCoins_15 : decode cX10_payoutCoins 15 = .ok (.iload_n 1, 1) := by decide +kernel
theorem dX10_payoutCoins_16 : decode cX10_payoutCoins 16 = .ok (.invokevirtual 257, 3) := by decide +kernel
theorem dX10_payoutCoins_19 : decode cX10_payoutCoins 19 = .ok (.ifCond .eq 12, 3) := by decide +kernel
theorem dX10_payoutCoins_22 : decode cX10_payoutCoins 22 = .ok (.aload_n 0, 1) := by decide +kernel
theorem dX10_payoutCoins_23 : decode cX10_payoutCoins 23 = .ok (.iconst 0, 1) := by decide +kernel
theorem dX10_payoutCoins_24 : decode cX10_payoutCoins 24 = .ok (.iload_n 1, 1) := by decide +kernel
theorem dX10_payoutCoins_25 : decode cX10_payoutCoins 25 = .ok (.invokevirtual 246, 3) := by decide +kernel
theorem dX10_payoutCoins_28 : decode cX10_payoutCoins 28 = .ok (.goto 5, 3) := by decide +kernel
theorem dX10_payoutCoins_31 : decode cX10_payoutCoins 31 = .ok (.bipush (-2), 2) := by decide +kernel
theorem dX10_payoutCoins_33 : decode cX10_payoutCoins 33 = .ok (.ireturn, 1) := by decide +kernel
def fn_X10_payoutCoins (N : Nat) (M : Mem) (a0 : Nat) (x1 : Int32) : Option (Int32 × Mem) :=
  (mm_pV M a0 10 0 (.int 0)).bind fun M1 =>
  mm_b2 (fn_X10_isAmount N M1 x1) fun v3 M2 =>
  if v3 = 0 then
    some ((-1), M2)
  else
    (mm_ck M2 a0 10).bind fun _ => mm_b2 (fn_X10_pays N M2 a0 x1) fun v5 M4 =>
    if v5 = 0 then
      some ((-2), M4)
    else
      (mm_ck M4 a0 10).bind fun _ => mm_b2 (fn_X10_fewestAt N M4 a0 0 x1) fun v7 M6 =>
      some (v7, M6)
set_option maxRecDepth 100000 in
set_option maxHeartbeats 4000000 in
theorem ct_X10_payoutCoins {l : Launch} {ω : Wd} {k N : Nat} {M : Mem} {a0 : Nat} {x1 : Int32} {r : Int32} {M' : Mem} (h : fn_X10_payoutCoins N M a0 x1 = some (r, M')) : CM l ω k yX10_payoutCoins cX10_payoutCoins 2 (some .int) 3 0 0 [.ref a0, .int x1] M (some (.int r)) M' := by
  refine CM.of (by decide) (Nat.le_of_ble_eq_true rfl) fun Γ hl C hr hi => ?_
  subst hl
  unfold fn_X10_payoutCoins at h
  refine jv_aload_n C dX10_payoutCoins_0 rfl 0 rfl ?_
  refine jv_iconst (v := 0) C dX10_payoutCoins_1 (by decide) ?_
  refine jv_putI C fp_X10_58 dX10_payoutCoins_2 h (fun M1 h => ?_)
  refine jv_iload_n C dX10_payoutCoins_5 rfl 1 rfl ?_
  refine jv_sI0 (As := [.int x1]) C lk_X10_254 dX10_payoutCoins_6 rfl rfl (by decide) (by decide) (by decide) (Nat.le_of_ble_eq_true rfl) h (fun _ _ h => ct_X10_isAmount h) (fun v3 M2 h => ?_)
  refine jv_if_ne (tgt := 14) C dX10_payoutCoins_9 (by decide) h (fun h => ?_) (fun h => ?_)
  · refine jv_aload_n C dX10_payoutCoins_14 rfl 0 rfl ?_
    refine jv_iload_n C dX10_payoutCoins_15 rfl 1 rfl ?_
    refine jv_vI0 (As := [.int x1]) C lk_X10_257 rfl dX10_payoutCoins_16 rfl rfl (by decide) (by decide) (by decide) (Nat.le_of_ble_eq_true rfl) h (fun _ _ h => ct_X10_pays h) (fun v5 M4 h => ?_)
    refine jv_if_eq (tgt := 31) C dX10_payoutCoins_19 (by decide) h (fun h => ?_) (fun h => ?_)
    · refine jv_bipush (v := (-2)) C dX10_payoutCoins_31 (by decide) ?_
      exact jv_iret C hr dX10_payoutCoins_33 h
    · refine jv_aload_n C dX10_payoutCoins_22 rfl 0 rfl ?_
      refine jv_iconst (v := 0) C dX10_payoutCoins_23 (by decide) ?_
      refine jv_iload_n C dX10_payoutCoins_24 rfl 1 rfl ?_
      refine jv_vI0 (As := [.int 0, .int x1]) C lk_X10_246 rfl dX10_payoutCoins_25 rfl rfl (by decide) (by decide) (by decide) (Nat.le_of_ble_eq_true rfl) h (fun _ _ h => ct_X10_fewestAt h) (fun v7 M6 h => ?_)
      refine jv_goto (tgt := 33) C dX10_payoutCoins_28 (by decide) ?_
      exact jv_iret C hr dX10_payoutCoins_33 h
  · refine jv_iconst (v := (-1)) C dX10_payoutCoins_12 (by decide) ?_
    exact jv_iret C hr dX10_payoutCoins_13 h
theorem dX10_payoutOf_0 : decode cX10_payoutOf 0 = .ok (.aload_n 0, 1) := by decide +kernel
theorem dX10_payoutOf_1 : decode cX10_payoutOf 1 = .ok (.iconst 0, 1) := by decide +kernel
theorem dX10_payoutOf_2 : decode cX10_payoutOf 2 = .ok (.putfield 58, 3) := by decide +kernel
theorem dX10_payoutOf_5 : decode cX10_payoutOf 5 = .ok (.iload_n 1, 1) := by decide +kernel
theorem dX10_payoutOf_6 : decode cX10_payoutOf 6 = .ok (.invokestatic 254, 3) := by decide +kernel
theorem dX10_payoutOf_9 : decode cX10_payoutOf 9 = .ok (.ifCond .eq 11, 3) := by decide +kernel
theorem dX10_payoutOf_12 : decode cX10_payoutOf 12 = .ok (.aload_n 0, 1) := by decide +kernel
theorem dX10_payoutOf_13 : decode cX10_payoutOf 13 = .ok (.iload_n 2, 1) := by decide +kernel
theorem dX10_payoutOf_14 : decode cX10_payoutOf 14 = .ok (.invokevirtual 170, 3) := by decide +kernel
theorem dX10_payoutOf_17 : decode cX10_payoutOf 17 = .ok (.ifCond .ne 5, 3) := by decide +kernel
theorem dX10_payoutOf_20 : decode cX10_payoutOf 20 = .ok (.iconst (-1), 1) := by decide +kernel
theorem dX10_payoutOf_21 : decode cX10_payoutOf 21 = .ok (.ireturn, 1) := by decide +kernel
theorem dX10_payoutOf_22 : decode cX10_payoutOf 22 = .ok (.aload_n 0, 1) := by decide +kernel
theorem dX10_payoutOf_23 : decode cX10_payoutOf 23 = .ok (.iload_n 1, 1) := by decide +kernel
theorem dX10_payoutOf_24 : decode cX10_payoutOf 24 = .ok (.invokevirtual 257, 3) := by decide +kernel
theorem dX10_payoutOf_27 : decode cX10_payoutOf 27 = .ok (.ifCond .eq 12, 3) := by decide +kernel
theorem dX10_payoutOf_30 : decode cX10_payoutOf 30 = .ok (.aload_n 0, 1) := by decide +kernel
theorem dX10_payoutOf_31 : decode cX10_payoutOf 31 = .ok (.getfield 49, 3) := by decide +kernel
theorem dX10_payoutOf_34 : decode cX10_payoutOf 34 = .ok (.iload_n 2, 1) := by decide +kernel
theorem dX10_payoutOf_35 : decode cX10_payoutOf 35 = .ok (.iaload, 1) := by decide +kernel
theorem dX10_payoutOf_36 : decode cX10_payoutOf 36 = .ok (.goto 5, 3) := by decide +kernel
theorem dX10_payoutOf_39 : decode cX10_payoutOf 39 = .ok (.bipush (-2), 2) := by decide +kernel
theorem dX10_payoutOf_41 : decode cX10_payoutOf 41 = .ok (.ireturn, 1) := by decide +kernel
def fn_X10_payoutOf (N : Nat) (M : Mem) (a0 : Nat) (x1 : Int32) (x2 : Int32) : Option (Int32 × Mem) :=
  (mm_pV M a0 10 0 (.int 0)).bind fun M1 =>
  mm_b2 (fn_X10_isAmount N M1 x1) fun v3 M2 =>
  if v3 = 0 then
    some ((-1), M2)
  else
    (mm_ck M2 a0 10).bind fun _ => mm_b2 (fn_X10_isType N M2 a0 x2) fun v5 M4 =>
    if v5 = 0 then
      some ((-1), M4)
    else
      (mm_ck M4 a0 10).bind fun _ => mm_b2 (fn_X10_pays N M4 a0 x1) fun v7 M6 =>
      if v7 = 0 then
        some ((-2), M6)
      else
        (mm_gR M6 a0 10 27).bind fun b8 =>
        (mm_aI M6 b8 0 x2).bind fun v9 =>
        some (v9, M6)
set_option maxRecDepth 100000 in
set_option maxHeartbeats 4000000 in
theorem ct_X10_payoutOf {l : Launch} {ω : Wd} {k N : Nat} {M : Mem} {a0 : Nat} {x1 : Int32} {x2 : Int32} {r : Int32} {M' : Mem} (h : fn_X10_payoutOf N M a0 x1 x2 = some (r, M')) : CM l ω k yX10_payoutOf cX10_payoutOf 3 (some .int) 3 0 0 [.ref a0, .int x1, .int x2] M (some (.int r)) M' := by
  refine CM.of (by decide) (Nat.le_of_ble_eq_true rfl) fun Γ hl C hr hi => ?_
  subst hl
  unfold fn_X10_payoutOf at h
  refine jv_aload_n C dX10_payoutOf_0 rfl 0 rfl ?_
  refine jv_iconst (v := 0) C dX10_payoutOf_1 (by decide) ?_
  refine jv_putI C fp_X10_58 dX10_payoutOf_2 h (fun M1 h => ?_)
  refine jv_iload_n C dX10_payoutOf_5 rfl 1 rfl ?_
  refine jv_sI0 (As := [.int x1]) C lk_X10_254 dX10_payoutOf_6 rfl rfl (by decide) (by decide) (by decide) (Nat.le_of_ble_eq_true rfl) h (fun _ _ h => ct_X10_isAmount h) (fun v3 M2 h => ?_)
  refine jv_if_eq (tgt := 20) C dX10_payoutOf_9 (by decide) h (fun h => ?_) (fun h => ?_)
  · refine jv_iconst (v := (-1)) C dX10_payoutOf_20 (by decide) ?_
    exact jv_iret C hr dX10_payoutOf_21 h
  · refine jv_aload_n C dX10_payoutOf_12 rfl 0 rfl ?_
    refine jv_iload_n C dX10_payoutOf_13 rfl 2 rfl ?_
    refine jv_vI0 (As := [.int x2]) C lk_X10_170 rfl dX10_payoutOf_14 rfl rfl (by decide) (by decide) (by decide) (Nat.le_of_ble_eq_true rfl) h (fun _ _ h => ct_X10_isType h) (fun v5 M4 h => ?_)
    refine jv_if_ne (tgt := 22) C dX10_payoutOf_17 (by decide) h (fun h => ?_) (fun h => ?_)
    · refine jv_aload_n C dX10_payoutOf_22 rfl 0 rfl ?_
      refine jv_iload_n C dX10_payoutOf_23 rfl 1 rfl ?_
      refine jv_vI0 (As := [.int x1]) C lk_X10_257 rfl dX10_payoutOf_24 rfl rfl (by decide) (by decide) (by decide) (Nat.le_of_ble_eq_true rfl) h (fun _ _ h => ct_X10_pays h) (fun v7 M6 h => ?_)
      refine jv_if_eq (tgt := 39) C dX10_payoutOf_27 (by decide) h (fun h => ?_) (fun h => ?_)
      · refine jv_bipush (v := (-2)) C dX10_payoutOf_39 (by decide) ?_
        exact jv_iret C hr dX10_payoutOf_41 h
      · refine jv_aload_n C dX10_payoutOf_30 rfl 0 rfl ?_
        refine jv_getR C fa_X10_49 dX10_payoutOf_31 h (fun b8 h => ?_)
        refine jv_iload_n C dX10_payoutOf_34 rfl 2 rfl ?_
        refine jv_iald C dX10_payoutOf_35 h (fun v9 h => ?_)
        refine jv_goto (tgt := 41) C dX10_payoutOf_36 (by decide) ?_
        exact jv_iret C hr dX10_payoutOf_41 h
    · refine jv_iconst (v := (-1)) C dX10_payoutOf_20 (by decide) ?_
      exact jv_iret C hr dX10_payoutOf_21 h
theorem dX10_record_0 : decode cX10_record 0 = .ok (.aload_n 0, 1) := by decide +kernel
theorem dX10_record_1 : decode cX10_record 1 = .ok (.iload_n 1, 1) := by decide +kernel
theorem dX10_record_2 : decode cX10_record 2 = .ok (.i2l, 1) := by decide +kernel
theorem dX10_record_3 : decode cX10_record 3 = .ok (.lconst 0, 1) := by decide +kernel
theorem dX10_record_4 : decode cX10_record 4 = .ok (.aload_n 0, 1) := by decide +kernel
theorem dX10_record_5 : decode cX10_record 5 = .ok (.getfield 29, 3) := by decide +kernel
theorem dX10_record_8 : decode cX10_record 8 = .ok (.bipush 7, 2) := by decide +kernel
theorem dX10_record_10 : decode cX10_record 10 = .ok (.iaload, 1) := by decide +kernel
theorem dX10_record_11 : decode cX10_record 11 = .ok (.iconst 1, 1) := by decide +kernel
theorem dX10_record_12 : decode cX10_record 12 = .ok (.isub, 1) := by decide +kernel
theorem dX10_record_13 : decode cX10_record 13 = .ok (.i2l, 1) := by decide +kernel
theorem dX10_record_14 : decode cX10_record 14 = .ok (.invokestatic 89, 3) := by decide +kernel
theorem dX10_record_17 : decode cX10_record 17 = .ok (.ifCond .eq 15, 3) := by decide +kernel
theorem dX10_record_20 : decode cX10_record 20 = .ok (.aload_n 0, 1) := by decide +kernel
theorem dX10_record_21 : decode cX10_record 21 = .ok (.getfield 29, 3) := by decide +kernel
theorem dX10_record_24 : decode cX10_record 24 = .ok (.bipush 42, 2) := by decide +kernel
theorem dX10_record_26 : decode cX10_record 26 = .ok (.iload_n 1, 1) := by decide +kernel
theorem dX10_record_27 : decode cX10_record 27 = .ok (.iadd, 1) := by decide +kernel
theorem dX10_record_28 : decode cX10_record 28 = .ok (.iaload, 1) := by decide +kernel
theorem dX10_record_29 : decode cX10_record 29 = .ok (.goto 4, 3) := by decide +kernel
theorem dX10_record_32 : decode cX10_record 32 = .ok (.iconst (-1), 1) := by decide +kernel
theorem dX10_record_33 : decode cX10_record 33 = .ok (.invokevirtual 167, 3) := by decide +kernel
theorem dX10_record_36 : decode cX10_record 36 = .ok (.ireturn, 1) := by decide +kernel
def fn_X10_record (N : Nat) (M : Mem) (a0 : Nat) (x1 : Int32) : Option (Int32 × Mem) :=
  (mm_gR M a0 10 16).bind fun b1 =>
  (mm_aI M b1 0 7).bind fun v2 =>
  mm_b2 (fn_X10_within N M ((Int32.toInt64 x1)) 0 ((Int32.toInt64 (v2 - 1)))) fun v4 M3 =>
  if v4 = 0 then
    (mm_ck M3 a0 10).bind fun _ => mm_b2 (fn_X10_told N M3 a0 ((-1))) fun v6 M5 =>
    some (v6, M5)
  else
    (mm_gR M3 a0 10 16).bind fun b7 =>
    (mm_aI M3 b7 0 (42 + x1)).bind fun v8 =>
    (mm_ck M3 a0 10).bind fun _ => mm_b2 (fn_X10_told N M3 a0 v8) fun v10 M9 =>
    some (v10, M9)
set_option maxRecDepth 100000 in
set_option maxHeartbeats 4000000 in
theorem ct_X10_record {l : Launch} {ω : Wd} {k N : Nat} {M : Mem} {a0 : Nat} {x1 : Int32} {r : Int32} {M' : Mem} (h : fn_X10_record N M a0 x1 = some (r, M')) : CM l ω k yX10_record cX10_record 2 (some .int) 1 0 0 [.ref a0, .int x1] M (some (.int r)) M' := by
  refine CM.of (by decide) (Nat.le_of_ble_eq_true rfl) fun Γ hl C hr hi => ?_
  subst hl
  unfold fn_X10_record at h
  refine jv_aload_n C dX10_record_0 rfl 0 rfl ?_
  refine jv_iload_n C dX10_record_1 rfl 1 rfl ?_
  refine jv_i2l C dX10_record_2 ?_
  refine jv_lconst (v := 0) C dX10_record_3 (by decide) ?_
  refine jv_aload_n C dX10_record_4 rfl 0 rfl ?_
  refine jv_getR C fa_X10_29 dX10_record_5 h (fun b1 h => ?_)
  refine jv_bipush (v := 7) C dX10_record_8 (by decide) ?_
  refine jv_iald C dX10_record_10 h (fun v2 h => ?_)
  refine jv_iconst (v := 1) C dX10_record_11 (by decide) ?_
  refine jv_isub C dX10_record_12 ?_
  refine jv_i2l C dX10_record_13 ?_
  refine jv_sI0 (As := [.long (Int32.toInt64 x1), .long 0, .long (Int32.toInt64 (v2 - 1))]) C lk_X10_89 dX10_record_14 rfl rfl (by decide) (by decide) (by decide) (Nat.le_of_ble_eq_true rfl) h (fun _ _ h => ct_X10_within h) (fun v4 M3 h => ?_)
  refine jv_if_eq (tgt := 32) C dX10_record_17 (by decide) h (fun h => ?_) (fun h => ?_)
  · refine jv_iconst (v := (-1)) C dX10_record_32 (by decide) ?_
    refine jv_vI0 (As := [.int (-1)]) C lk_X10_167 rfl dX10_record_33 rfl rfl (by decide) (by decide) (by decide) (Nat.le_of_ble_eq_true rfl) h (fun _ _ h => ct_X10_told h) (fun v6 M5 h => ?_)
    exact jv_iret C hr dX10_record_36 h
  · refine jv_aload_n C dX10_record_20 rfl 0 rfl ?_
    refine jv_getR C fa_X10_29 dX10_record_21 h (fun b7 h => ?_)
    refine jv_bipush (v := 42) C dX10_record_24 (by decide) ?_
    refine jv_iload_n C dX10_record_26 rfl 1 rfl ?_
    refine jv_iadd C dX10_record_27 ?_
    refine jv_iald C dX10_record_28 h (fun v8 h => ?_)
    refine jv_goto (tgt := 33) C dX10_record_29 (by decide) ?_
    refine jv_vI0 (As := [.int v8]) C lk_X10_167 rfl dX10_record_33 rfl rfl (by decide) (by decide) (by decide) (Nat.le_of_ble_eq_true rfl) h (fun _ _ h => ct_X10_told h) (fun v10 M9 h => ?_)
    exact jv_iret C hr dX10_record_36 h
theorem dX10_rejected_0 : decode cX10_rejected 0 = .ok (.aload_n 0, 1) := by decide +kernel
theorem dX10_rejected_1 : decode cX10_rejected 1 = .ok (.iload_n 1, 1) := by decide +kernel
theorem dX10_rejected_2 : decode cX10_rejected 2 = .ok (.invokestatic 234, 3) := by decide +kernel
theorem dX10_rejected_5 : decode cX10_rejected 5 = .ok (.ifCond .ge 7, 3) := by decide +kernel
theorem dX10_rejected_8 : decode cX10_rejected 8 = .ok (.iconst (-1), 1) := by decide +kernel
theorem dX10_rejected_9 : decode cX10_rejected 9 = .ok (.goto 12, 3) := by decide +kernel
theorem dX10_rejected_12 : decode cX10_rejected 12 = .ok (.aload_n 0, 1) := by decide +kernel
theorem dX10_rejected_13 : decode cX10_rejected 13 = .ok (.getfield 29, 3) := by decide +kernel
theorem dX10_rejected_16 : decode cX10_rejected 16 = .ok (.iload_n 1, 1) := by decide +kernel
theorem dX10_rejected_17 : decode cX10_rejected 17 = .ok (.invokestatic 234, 3) := by decide +kernel
theorem dX10_rejected_20 : decode cX10_rejected 20 = .ok (.iaload, 1) := by decide +kernel
theorem dX10_rejected_21 : decode cX10_rejected 21 = .ok (.invokevirtual 167, 3) := by decide +kernel
theorem dX10_rejected_24 : decode cX10_rejected 24 = .ok (.ireturn, 1) := by decide +kernel
def fn_X10_rejected (N : Nat) (M : Mem) (a0 : Nat) (x1 : Int32) : Option (Int32 × Mem) :=
  mm_b2 (fn_X10_rejectPlace N M x1) fun v2 M1 =>
  if 0 ≤ v2 then
    (mm_gR M1 a0 10 16).bind fun b3 =>
    mm_b2 (fn_X10_rejectPlace N M1 x1) fun v5 M4 =>
    (mm_aI M4 b3 0 v5).bind fun v6 =>
    (mm_ck M4 a0 10).bind fun _ => mm_b2 (fn_X10_told N M4 a0 v6) fun v8 M7 =>
    some (v8, M7)
  else
    (mm_ck M1 a0 10).bind fun _ => mm_b2 (fn_X10_told N M1 a0 ((-1))) fun v10 M9 =>
    some (v10, M9)
set_option maxRecDepth 100000 in
set_option maxHeartbeats 4000000 in
theorem ct_X10_rejected {l : Launch} {ω : Wd} {k N : Nat} {M : Mem} {a0 : Nat} {x1 : Int32} {r : Int32} {M' : Mem} (h : fn_X10_rejected N M a0 x1 = some (r, M')) : CM l ω k yX10_rejected cX10_rejected 2 (some .int) 2 0 0 [.ref a0, .int x1] M (some (.int r)) M' := by
  refine CM.of (by decide) (Nat.le_of_ble_eq_true rfl) fun Γ hl C hr hi => ?_
  subst hl
  unfold fn_X10_rejected at h
  refine jv_aload_n C dX10_rejected_0 rfl 0 rfl ?_
  refine jv_iload_n C dX10_rejected_1 rfl 1 rfl ?_
  refine jv_sI0 (As := [.int x1]) C lk_X10_234 dX10_rejected_2 rfl rfl (by decide) (by decide) (by decide) (Nat.le_of_ble_eq_true rfl) h (fun _ _ h => ct_X10_rejectPlace h) (fun v2 M1 h => ?_)
  refine jv_if_ge (tgt := 12) C dX10_rejected_5 (by decide) h (fun h => ?_) (fun h => ?_)
  · refine jv_aload_n C dX10_rejected_12 rfl 0 rfl ?_
    refine jv_getR C fa_X10_29 dX10_rejected_13 h (fun b3 h => ?_)
    refine jv_iload_n C dX10_rejected_16 rfl 1 rfl ?_
    refine jv_sI0 (As := [.int x1]) C lk_X10_234 dX10_rejected_17 rfl rfl (by decide) (by decide) (by decide) (Nat.le_of_ble_eq_true rfl) h (fun _ _ h => ct_X10_rejectPlace h) (fun v5 M4 h => ?_)
    refine jv_iald C dX10_rejected_20 h (fun v6 h => ?_)
    refine jv_vI0 (As := [.int v6]) C lk_X10_167 rfl dX10_rejected_21 rfl rfl (by decide) (by decide) (by decide) (Nat.le_of_ble_eq_true rfl) h (fun _ _ h => ct_X10_told h) (fun v8 M7 h => ?_)
    exact jv_iret C hr dX10_rejected_24 h
  · refine jv_iconst (v := (-1)) C dX10_rejected_8 (by decide) ?_
    refine jv_goto (tgt := 21) C dX10_rejected_9 (by decide) ?_
    refine jv_vI0 (As := [.int (-1)]) C lk_X10_167 rfl dX10_rejected_21 rfl rfl (by decide) (by decide) (by decide) (Nat.le_of_ble_eq_true rfl) h (fun _ _ h => ct_X10_told h) (fun v10 M9 h => ?_)
    exact jv_iret C hr dX10_rejected_24 h
theorem dX10_restoreSnapshot_0 : decode cX10_restoreSnapshot 0 = .ok (.aload_n 0, 1) := by decide +kernel
theorem dX10_restoreSnapshot_1 : decode cX10_restoreSnapshot 1 = .ok (.iconst 0, 1) := by decide +kernel
theorem dX10_restoreSnapshot_2 : decode cX10_restoreSnapshot 2 = .ok (.putfield 58, 3) := by decide +kernel
theorem dX10_restoreSnapshot_5 : decode cX10_restoreSnapshot 5 = .ok (.iload_n 1, 1) := by decide +kernel
theorem dX10_restoreSnapshot_6 : decode cX10_restoreSnapshot 6 = .ok (.i2l, 1) := by decide +kernel
theorem dX10_restoreSnapshot_7 : decode cX10_restoreSnapshot 7 = .ok (.lconst 0, 1) := by decide +kernel
theorem dX10_restoreSnapshot_8 : decode cX10_restoreSnapshot 8 = .ok (.lconst 1, 1) := by decide +kernel
theorem dX10_restoreSnapshot_9 : decode cX10_restoreSnapshot 9 = .ok (.invokestatic 89, 3) := by decide +kernel
theorem dX10_restoreSnapshot_12 : decode cX10_restoreSnapshot 12 = .ok (.ifCond .eq 12, 3) := by decide +kernel
theorem dX10_restoreSnapshot_15 : decode cX10_restoreSnapshot 15 = .ok (.aload_n 0, 1) := by decide +kernel
theorem dX10_restoreSnapshot_16 : decode cX10_restoreSnapshot 16 = .ok (.getfield 38, 3) := by decide +kernel
theorem dX10_restoreSnapshot_19 : decode cX10_restoreSnapshot 19 = .ok (.iload_n 1, 1) := by decide +kernel
theorem dX10_restoreSnapshot_20 : decode cX10_restoreSnapshot 20 = .ok (.baload, 1) := by decide +kernel
theorem dX10_restoreSnapshot_21 : decode cX10_restoreSnapshot 21 = .ok (.ifCond .ne 5, 3) := by decide +kernel
theorem dX10_restoreSnapshot_24 : decode cX10_restoreSnapshot 24 = .ok (.iconst 0, 1) := by decide +kernel
theorem dX10_restoreSnapshot_25 : decode cX10_restoreSnapshot 25 = .ok (.ireturn, 1) := by decide +kernel
theorem dX10_restoreSnapshot_26 : decode cX10_restoreSnapshot 26 = .ok (.iconst 0, 1) := by decide +kernel
theorem dX10_restoreSnapshot_27 : decode cX10_restoreSnapshot 27 = .ok (.istore_n 2, 1) := by decide +kernel
theorem dX10_restoreSnapshot_28 : decode cX10_restoreSnapshot 28 = .ok (.iload_n 2, 1) := by decide +kernel
theorem dX10_restoreSnapshot_29 : decode cX10_restoreSnapshot 29 = .ok (.sipush 412, 3) := by decide +kernel
theorem dX10_restoreSnapshot_32 : decode cX10_restoreSnapshot 32 = .ok (.if_icmp .ge 27, 3) := by decide +kernel
theorem dX10_restoreSnapshot_35 : decode cX10_restoreSnapshot 35 = .ok (.aload_n 0, 1) := by decide +kernel
theorem dX10_restoreSnapshot_36 : decode cX10_restoreSnapshot 36 = .ok (.getfield 29, 3) := by decide +kernel
theorem dX10_restoreSnapshot_39 : decode cX10_restoreSnapshot 39 = .ok (.iload_n 2, 1) := by decide +kernel
theorem dX10_restoreSnapshot_40 : decode cX10_restoreSnapshot 40 = .ok (.aload_n 0, 1) := by decide +kernel
theorem dX10_restoreSnapshot_41 : decode cX10_restoreSnapshot 41 = .ok (.getfield 35, 3) := by decide +kernel
theorem dX10_restoreSnapshot_44 : decode cX10_restoreSnapshot 44 = .ok (.sipush 412, 3) := by decide +kernel
theorem dX10_restoreSnapshot_47 : decode cX10_restoreSnapshot 47 = .ok (.iload_n 1, 1) := by decide +kernel
theorem dX10_restoreSnapshot_48 : decode cX10_restoreSnapshot 48 = .ok (.imul, 1) := by decide +kernel
theorem dX10_restoreSnapshot_49 : decode cX10_restoreSnapshot 49 = .ok (.iload_n 2, 1) := by decide +kernel
theorem dX10_restoreSnapshot_50 : decode cX10_restoreSnapshot 50 = .ok (.iadd, 1) := by decide +kernel
theorem dX10_restoreSnapshot_51 : decode cX10_restoreSnapshot 51 = .ok (.iaload, 1) := by decide +kernel
theorem dX10_restoreSnapshot_52 : decode cX10_restoreSnapshot 52 = .ok (.iastore, 1) := by decide +kernel
theorem dX10_restoreSnapshot_53 : decode cX10_restoreSnapshot 53 = .ok (.iinc 2 1, 3) := by decide +kernel
theorem dX10_restoreSnapshot_56 : decode cX10_restoreSnapshot 56 = .ok (.goto (-28), 3) := by decide +kernel
theorem dX10_restoreSnapshot_59 : decode cX10_restoreSnapshot 59 = .ok (.aload_n 0, 1) := by decide +kernel
theorem dX10_restoreSnapshot_60 : decode cX10_restoreSnapshot 60 = .ok (.iconst 0, 1) := by decide +kernel
theorem dX10_restoreSnapshot_61 : decode cX10_restoreSnapshot 61 = .ok (.putfield 160, 3) := by decide +kernel
theorem dX10_restoreSnapshot_64 : decode cX10_restoreSnapshot 64 = .ok (.iconst 1, 1) := by decide +kernel
theorem dX10_restoreSnapshot_65 : decode cX10_restoreSnapshot 65 = .ok (.ireturn, 1) := by decide +kernel
def fn_X10_restoreSnapshot_28 (N : Nat) : Nat → Mem → Nat → Int32 → Int32 → Option (Int32 × Mem)
  | 0, _, _, _, _ => none
  | n + 1, M, a0, x1, x2 =>
    if 412 ≤ x2 then
      (mm_pV M a0 10 18 (.int 0)).bind fun M1 =>
      some (1, M1)
    else
      (mm_gR M a0 10 16).bind fun b2 =>
      (mm_gR M a0 10 19).bind fun b3 =>
      (mm_aI M b3 0 ((412 * x1) + x2)).bind fun v4 =>
      (mm_sI M b2 0 x2 v4).bind fun M5 =>
      fn_X10_restoreSnapshot_28 N n M5 a0 x1 ((x2 + 1))
set_option maxRecDepth 100000 in
set_option maxHeartbeats 4000000 in
theorem bk_X10_restoreSnapshot_28 {Γ : Gm} {ω : Wd} {k N : Nat} {r : Int32} {M' : Mem} (C : Cx Γ cX10_restoreSnapshot 3 RX10 ω 1 0 0) (hr : Γ.meth.sig.returnType = (some .boolean)) : ∀ (n : Nat) (M : Mem) (a0 : Nat) (x1 : Int32) (x2 : Int32), fn_X10_restoreSnapshot_28 N n M a0 x1 x2 = some (r, M') → JJ Γ (QF Γ ω k 0 0 (some (.int r)) M') 3 ω k M 0 0 28 [(0, .ref a0), (1, .int x1), (2, .int x2)] [] := by
  intro n
  induction n with
  | zero => intro M a0 x1 x2 h; exact jv_no h
  | succ n ih =>
    intro M a0 x1 x2 h
    rw [fn_X10_restoreSnapshot_28.eq_2] at h
    refine jv_iload_n C dX10_restoreSnapshot_28 rfl 2 rfl ?_
    refine jv_sipush (v := 412) C dX10_restoreSnapshot_29 (by decide) ?_
    refine jv_icmp_ge (tgt := 59) C dX10_restoreSnapshot_32 (by decide) h (fun h => ?_) (fun h => ?_)
    · refine jv_aload_n C dX10_restoreSnapshot_59 rfl 0 rfl ?_
      refine jv_iconst (v := 0) C dX10_restoreSnapshot_60 (by decide) ?_
      refine jv_putI C fp_X10_160 dX10_restoreSnapshot_61 h (fun M1 h => ?_)
      refine jv_iconst (v := 1) C dX10_restoreSnapshot_64 (by decide) ?_
      exact jv_zretc C hr (Or.inr rfl) dX10_restoreSnapshot_65 h
    · refine jv_aload_n C dX10_restoreSnapshot_35 rfl 0 rfl ?_
      refine jv_getR C fa_X10_29 dX10_restoreSnapshot_36 h (fun b2 h => ?_)
      refine jv_iload_n C dX10_restoreSnapshot_39 rfl 2 rfl ?_
      refine jv_aload_n C dX10_restoreSnapshot_40 rfl 0 rfl ?_
      refine jv_getR C fa_X10_35 dX10_restoreSnapshot_41 h (fun b3 h => ?_)
      refine jv_sipush (v := 412) C dX10_restoreSnapshot_44 (by decide) ?_
      refine jv_iload_n C dX10_restoreSnapshot_47 rfl 1 rfl ?_
      refine jv_imul C dX10_restoreSnapshot_48 ?_
      refine jv_iload_n C dX10_restoreSnapshot_49 rfl 2 rfl ?_
      refine jv_iadd C dX10_restoreSnapshot_50 ?_
      refine jv_iald C dX10_restoreSnapshot_51 h (fun v4 h => ?_)
      refine jv_iast C dX10_restoreSnapshot_52 h (fun M5 h => ?_)
      refine jv_iinc (v := 1) (lv' := [(2, .int (x2 + 1)), (0, .ref a0), (1, .int x1)]) C dX10_restoreSnapshot_53 2 rfl (by decide) (by decide) rfl ?_
      refine jv_goto (tgt := 28) C dX10_restoreSnapshot_56 (by decide) ?_
      refine jv_sub [1, 2, 0] rfl ?_
      exact ih _ _ _ _ h
def fn_X10_restoreSnapshot (N : Nat) (M : Mem) (a0 : Nat) (x1 : Int32) : Option (Int32 × Mem) :=
  (mm_pV M a0 10 0 (.int 0)).bind fun M1 =>
  mm_b2 (fn_X10_within N M1 ((Int32.toInt64 x1)) 0 1) fun v3 M2 =>
  if v3 = 0 then
    some (0, M2)
  else
    (mm_gR M2 a0 10 20).bind fun b4 =>
    (mm_aI M2 b4 3 x1).bind fun v5 =>
    if v5 = 0 then
      some (0, M2)
    else
      fn_X10_restoreSnapshot_28 N N M2 a0 x1 0
set_option maxRecDepth 100000 in
set_option maxHeartbeats 4000000 in
theorem ct_X10_restoreSnapshot {l : Launch} {ω : Wd} {k N : Nat} {M : Mem} {a0 : Nat} {x1 : Int32} {r : Int32} {M' : Mem} (h : fn_X10_restoreSnapshot N M a0 x1 = some (r, M')) : CM l ω k yX10_restoreSnapshot cX10_restoreSnapshot 3 (some .boolean) 1 0 0 [.ref a0, .int x1] M (some (.int r)) M' := by
  refine CM.of (by decide) (Nat.le_of_ble_eq_true rfl) fun Γ hl C hr hi => ?_
  subst hl
  unfold fn_X10_restoreSnapshot at h
  refine jv_aload_n C dX10_restoreSnapshot_0 rfl 0 rfl ?_
  refine jv_iconst (v := 0) C dX10_restoreSnapshot_1 (by decide) ?_
  refine jv_putI C fp_X10_58 dX10_restoreSnapshot_2 h (fun M1 h => ?_)
  refine jv_iload_n C dX10_restoreSnapshot_5 rfl 1 rfl ?_
  refine jv_i2l C dX10_restoreSnapshot_6 ?_
  refine jv_lconst (v := 0) C dX10_restoreSnapshot_7 (by decide) ?_
  refine jv_lconst (v := 1) C dX10_restoreSnapshot_8 (by decide) ?_
  refine jv_sI0 (As := [.long (Int32.toInt64 x1), .long 0, .long 1]) C lk_X10_89 dX10_restoreSnapshot_9 rfl rfl (by decide) (by decide) (by decide) (Nat.le_of_ble_eq_true rfl) h (fun _ _ h => ct_X10_within h) (fun v3 M2 h => ?_)
  refine jv_if_eq (tgt := 24) C dX10_restoreSnapshot_12 (by decide) h (fun h => ?_) (fun h => ?_)
  · refine jv_iconst (v := 0) C dX10_restoreSnapshot_24 (by decide) ?_
    exact jv_zretc C hr (Or.inl rfl) dX10_restoreSnapshot_25 h
  · refine jv_aload_n C dX10_restoreSnapshot_15 rfl 0 rfl ?_
    refine jv_getR C fa_X10_38 dX10_restoreSnapshot_16 h (fun b4 h => ?_)
    refine jv_iload_n C dX10_restoreSnapshot_19 rfl 1 rfl ?_
    refine jv_zald C dX10_restoreSnapshot_20 h (fun v5 h => ?_)
    refine jv_if_ne (tgt := 26) C dX10_restoreSnapshot_21 (by decide) h (fun h => ?_) (fun h => ?_)
    · refine jv_iconst (v := 0) C dX10_restoreSnapshot_26 (by decide) ?_
      refine jv_istore_n (lv' := [(2, .int 0), (0, .ref a0), (1, .int x1)]) C dX10_restoreSnapshot_27 rfl (by decide) rfl ?_
      refine jv_sub [1, 2, 0] rfl ?_
      exact bk_X10_restoreSnapshot_28 C hr _ _ _ _ _ h
    · refine jv_iconst (v := 0) C dX10_restoreSnapshot_24 (by decide) ?_
      exact jv_zretc C hr (Or.inl rfl) dX10_restoreSnapshot_25 h
theorem dX10_run_0 : decode cX10_run 0 = .ok (.aload_n 0, 1) := by decide +kernel
theorem dX10_run_1 : decode cX10_run 1 = .ok (.iconst 0, 1) := by decide +kernel
theorem dX10_run_2 : decode cX10_run 2 = .ok (.putfield 58, 3) := by decide +kernel
theorem dX10_run_5 : decode cX10_run 5 = .ok (.iload_n 1, 1) := by decide +kernel
theorem dX10_run_6 : decode cX10_run 6 = .ok (.i2l, 1) := by decide +kernel
theorem dX10_run_7 : decode cX10_run 7 = .ok (.lconst 1, 1) := by decide +kernel
theorem dX10_run_8 : decode cX10_run 8 = .ok (.ldc2_w 289, 3) := by decide +kernel
theorem dX10_run_11 : decode cX10_run 11 = .ok (.invokestatic 89, 3) := by decide +kernel
theorem dX10_run_14 : decode cX10_run 14 = .ok (.ifCond .ne 5, 3) := by decide +kernel
theorem dX10_run_17 : decode cX10_run 17 = .ok (.iconst (-1), 1) := by decide +kernel
theorem dX10_run_18 : decode cX10_run 18 = .ok (.ireturn, 1) := by decide +kernel
theorem dX10_run_19 : decode cX10_run 19 = .ok (.aload_n 0, 1) := by decide +kernel
theorem dX10_run_20 : decode cX10_run 20 = .ok (.aload_n 0, 1) := by decide +kernel
theorem dX10_run_21 : decode cX10_run 21 = .ok (.invokevirtual 227, 3) := by decide +kernel
theorem dX10_run_24 : decode cX10_run 24 = .ok (.invokevirtual 283, 3) := by decide +kernel
theorem dX10_run_27 : decode cX10_run 27 = .ok (.ifCond .ne 5, 3) := by decide +kernel
theorem dX10_run_30 : decode cX10_run 30 = .ok (.iconst 0, 1) := by decide +kernel
theorem dX10_run_31 : decode cX10_run 31 = .ok (.ireturn, 1) := by decide +kernel
theorem dX10_run_32 : decode cX10_run 32 = .ok (.aload_n 0, 1) := by decide +kernel
theorem dX10_run_33 : decode cX10_run 33 = .ok (.invokevirtual 271, 3) := by decide +kernel
theorem dX10_run_36 : decode cX10_run 36 = .ok (.iconst 0, 1) := by decide +kernel
theorem dX10_run_37 : decode cX10_run 37 = .ok (.istore_n 2, 1) := by decide +kernel
theorem dX10_run_38 : decode cX10_run 38 = .ok (.aload_n 0, 1) := by decide +kernel
theorem dX10_run_39 : decode cX10_run 39 = .ok (.invokevirtual 227, 3) := by decide +kernel
theorem dX10_run_42 : decode cX10_run 42 = .ok (.istore_n 3, 1) := by decide +kernel
theorem dX10_run_43 : decode cX10_run 43 = .ok (.iload_n 2, 1) := by decide +kernel
theorem dX10_run_44 : decode cX10_run 44 = .ok (.iload_n 1, 1) := by decide +kernel
theorem dX10_run_45 : decode cX10_run 45 = .ok (.if_icmp .ge 27, 3) := by decide +kernel
theorem dX10_run_48 : decode cX10_run 48 = .ok (.aload_n 0, 1) := by decide +kernel
theorem dX10_run_49 : decode cX10_run 49 = .ok (.iload_n 3, 1) := by decide +kernel
theorem dX10_run_50 : decode cX10_run 50 = .ok (.invokevirtual 283, 3) := by decide +kernel
theorem dX10_run_53 : decode cX10_run 53 = .ok (.ifCond .eq 19, 3) := by decide +kernel
theorem dX10_run_56 : decode cX10_run 56 = .ok (.aload_n 0, 1) := by decide +kernel
theorem dX10_run_57 : decode cX10_run 57 = .ok (.iload_n 3, 1) := by decide +kernel
theorem dX10_run_58 : decode cX10_run 58 = .ok (.invokevirtual 286, 3) := by decide +kernel
theorem dX10_run_61 : decode cX10_run 61 = .ok (.iinc 2 1, 3) := by decide +kernel
theorem dX10_run_64 : decode cX10_run 64 = .ok (.aload_n 0, 1) := by decide +kernel
theorem dX10_run_65 : decode cX10_run 65 = .ok (.invokevirtual 227, 3) := by decide +kernel
theorem dX10_run_68 : decode cX10_run 68 = .ok (.istore_n 3, 1) := by decide +kernel
theorem dX10_run_69 : decode cX10_run 69 = .ok (.goto (-26), 3) := by decide +kernel
theorem dX10_run_72 : decode cX10_run 72 = .ok (.iload_n 2, 1) := by decide +kernel
theorem dX10_run_73 : decode cX10_run 73 = .ok (.ireturn, 1) := by decide +kernel
def fn_X10_run_43 (N : Nat) : Nat → Mem → Nat → Int32 → Int32 → Int32 → Option (Int32 × Mem)
  | 0, _, _, _, _, _ => none
  | n + 1, M, a0, x1, x2, x3 =>
    if x1 ≤ x2 then
      some (x2, M)
    else
      (mm_ck M a0 10).bind fun _ => mm_b2 (fn_X10_isStep N M a0 x3) fun v2 M1 =>
      if v2 = 0 then
        some (x2, M1)
      else
        (mm_ck M1 a0 10).bind fun _ => mm_b2 (fn_X10_doStep N M1 a0 x3) fun _ M3 =>
        (mm_ck M3 a0 10).bind fun _ => mm_b2 (fn_X10_nextOutcome N M3 a0) fun v5 M4 =>
        fn_X10_run_43 N n M4 a0 x1 ((x2 + 1)) v5
set_option maxRecDepth 100000 in
set_option maxHeartbeats 4000000 in
theorem bk_X10_run_43 {Γ : Gm} {ω : Wd} {k N : Nat} {r : Int32} {M' : Mem} (C : Cx Γ cX10_run 4 RX10 ω 5 0 0) (hr : Γ.meth.sig.returnType = (some .int)) : ∀ (n : Nat) (M : Mem) (a0 : Nat) (x1 : Int32) (x2 : Int32) (x3 : Int32), fn_X10_run_43 N n M a0 x1 x2 x3 = some (r, M') → JJ Γ (QF Γ ω k 0 0 (some (.int r)) M') 4 ω k M 0 0 43 [(0, .ref a0), (1, .int x1), (2, .int x2), (3, .int x3)] [] := by
  intro n
  induction n with
  | zero => intro M a0 x1 x2 x3 h; exact jv_no h
  | succ n ih =>
    intro M a0 x1 x2 x3 h
    rw [fn_X10_run_43.eq_2] at h
    refine jv_iload_n C dX10_run_43 rfl 2 rfl ?_
    refine jv_iload_n C dX10_run_44 rfl 1 rfl ?_
    refine jv_icmp_ge (tgt := 72) C dX10_run_45 (by decide) h (fun h => ?_) (fun h => ?_)
    · refine jv_iload_n C dX10_run_72 rfl 2 rfl ?_
      exact jv_iret C hr dX10_run_73 h
    · refine jv_aload_n C dX10_run_48 rfl 0 rfl ?_
      refine jv_iload_n C dX10_run_49 rfl 3 rfl ?_
      refine jv_vI0 (As := [.int x3]) C lk_X10_283 rfl dX10_run_50 rfl rfl (by decide) (by decide) (by decide) (Nat.le_of_ble_eq_true rfl) h (fun _ _ h => ct_X10_isStep h) (fun v2 M1 h => ?_)
      refine jv_if_eq (tgt := 72) C dX10_run_53 (by decide) h (fun h => ?_) (fun h => ?_)
      · refine jv_iload_n C dX10_run_72 rfl 2 rfl ?_
        exact jv_iret C hr dX10_run_73 h
      · refine jv_aload_n C dX10_run_56 rfl 0 rfl ?_
        refine jv_iload_n C dX10_run_57 rfl 3 rfl ?_
        refine jv_vV0 (As := [.int x3]) C lk_X10_286 rfl dX10_run_58 rfl rfl (by decide) (by decide) (by decide) (Nat.le_of_ble_eq_true rfl) h (fun _ _ h => ct_X10_doStep h) (fun _ M3 h => ?_)
        refine jv_iinc (v := 1) (lv' := [(2, .int (x2 + 1)), (0, .ref a0), (1, .int x1), (3, .int x3)]) C dX10_run_61 2 rfl (by decide) (by decide) rfl ?_
        refine jv_aload_n C dX10_run_64 rfl 1 rfl ?_
        refine jv_vI0 (As := []) C lk_X10_227 rfl dX10_run_65 rfl rfl (by decide) (by decide) (by decide) (Nat.le_of_ble_eq_true rfl) h (fun _ _ h => ct_X10_nextOutcome h) (fun v5 M4 h => ?_)
        refine jv_istore_n (lv' := [(3, .int v5), (2, .int (x2 + 1)), (0, .ref a0), (1, .int x1)]) C dX10_run_68 rfl (by decide) rfl ?_
        refine jv_goto (tgt := 43) C dX10_run_69 (by decide) ?_
        refine jv_sub [2, 3, 1, 0] rfl ?_
        exact ih _ _ _ _ _ h
def fn_X10_run (N : Nat) (M : Mem) (a0 : Nat) (x1 : Int32) : Option (Int32 × Mem) :=
  (mm_pV M a0 10 0 (.int 0)).bind fun M1 =>
  mm_b2 (fn_X10_within N M1 ((Int32.toInt64 x1)) 1 100) fun v3 M2 =>
  if v3 = 0 then
    some ((-1), M2)
  else
    (mm_ck M2 a0 10).bind fun _ => mm_b2 (fn_X10_nextOutcome N M2 a0) fun v5 M4 =>
    (mm_ck M4 a0 10).bind fun _ => mm_b2 (fn_X10_isStep N M4 a0 v5) fun v7 M6 =>
    if v7 = 0 then
      some (0, M6)
    else
      (mm_ck M6 a0 10).bind fun _ => mm_b2 (fn_X10_keep N M6 a0) fun _ M8 =>
      (mm_ck M8 a0 10).bind fun _ => mm_b2 (fn_X10_nextOutcome N M8 a0) fun v10 M9 =>
      fn_X10_run_43 N N M9 a0 x1 0 v10
set_option maxRecDepth 100000 in
set_option maxHeartbeats 4000000 in
theorem ct_X10_run {l : Launch} {ω : Wd} {k N : Nat} {M : Mem} {a0 : Nat} {x1 : Int32} {r : Int32} {M' : Mem} (h : fn_X10_run N M a0 x1 = some (r, M')) : CM l ω k yX10_run cX10_run 4 (some .int) 5 0 0 [.ref a0, .int x1] M (some (.int r)) M' := by
  refine CM.of (by decide) (Nat.le_of_ble_eq_true rfl) fun Γ hl C hr hi => ?_
  subst hl
  unfold fn_X10_run at h
  refine jv_aload_n C dX10_run_0 rfl 0 rfl ?_
  refine jv_iconst (v := 0) C dX10_run_1 (by decide) ?_
  refine jv_putI C fp_X10_58 dX10_run_2 h (fun M1 h => ?_)
  refine jv_iload_n C dX10_run_5 rfl 1 rfl ?_
  refine jv_i2l C dX10_run_6 ?_
  refine jv_lconst (v := 1) C dX10_run_7 (by decide) ?_
  refine jv_ldc2 C gw_1782 dX10_run_8 ?_
  refine jv_sI0 (As := [.long (Int32.toInt64 x1), .long 1, .long 100]) C lk_X10_89 dX10_run_11 rfl rfl (by decide) (by decide) (by decide) (Nat.le_of_ble_eq_true rfl) h (fun _ _ h => ct_X10_within h) (fun v3 M2 h => ?_)
  refine jv_if_ne (tgt := 19) C dX10_run_14 (by decide) h (fun h => ?_) (fun h => ?_)
  · refine jv_aload_n C dX10_run_19 rfl 0 rfl ?_
    refine jv_aload_n C dX10_run_20 rfl 0 rfl ?_
    refine jv_vI0 (As := []) C lk_X10_227 rfl dX10_run_21 rfl rfl (by decide) (by decide) (by decide) (Nat.le_of_ble_eq_true rfl) h (fun _ _ h => ct_X10_nextOutcome h) (fun v5 M4 h => ?_)
    refine jv_vI0 (As := [.int v5]) C lk_X10_283 rfl dX10_run_24 rfl rfl (by decide) (by decide) (by decide) (Nat.le_of_ble_eq_true rfl) h (fun _ _ h => ct_X10_isStep h) (fun v7 M6 h => ?_)
    refine jv_if_ne (tgt := 32) C dX10_run_27 (by decide) h (fun h => ?_) (fun h => ?_)
    · refine jv_aload_n C dX10_run_32 rfl 0 rfl ?_
      refine jv_vV0 (As := []) C lk_X10_271 rfl dX10_run_33 rfl rfl (by decide) (by decide) (by decide) (Nat.le_of_ble_eq_true rfl) h (fun _ _ h => ct_X10_keep h) (fun _ M8 h => ?_)
      refine jv_iconst (v := 0) C dX10_run_36 (by decide) ?_
      refine jv_istore_n (lv' := [(2, .int 0), (0, .ref a0), (1, .int x1)]) C dX10_run_37 rfl (by decide) rfl ?_
      refine jv_aload_n C dX10_run_38 rfl 1 rfl ?_
      refine jv_vI0 (As := []) C lk_X10_227 rfl dX10_run_39 rfl rfl (by decide) (by decide) (by decide) (Nat.le_of_ble_eq_true rfl) h (fun _ _ h => ct_X10_nextOutcome h) (fun v10 M9 h => ?_)
      refine jv_istore_n (lv' := [(3, .int v10), (2, .int 0), (0, .ref a0), (1, .int x1)]) C dX10_run_42 rfl (by decide) rfl ?_
      refine jv_sub [2, 3, 1, 0] rfl ?_
      exact bk_X10_run_43 C hr _ _ _ _ _ _ h
    · refine jv_iconst (v := 0) C dX10_run_30 (by decide) ?_
      exact jv_iret C hr dX10_run_31 h
  · refine jv_iconst (v := (-1)) C dX10_run_17 (by decide) ?_
    exact jv_iret C hr dX10_run_18 h
theorem dX10_sampleCost_0 : decode cX10_sampleCost 0 = .ok (.aload_n 0, 1) := by decide +kernel
theorem dX10_sampleCost_1 : decode cX10_sampleCost 1 = .ok (.iload_n 1, 1) := by decide +kernel
theorem dX10_sampleCost_2 : decode cX10_sampleCost 2 = .ok (.i2l, 1) := by decide +kernel
theorem dX10_sampleCost_3 : decode cX10_sampleCost 3 = .ok (.lconst 0, 1) := by decide +kernel
theorem dX10_sampleCost_4 : decode cX10_sampleCost 4 = .ok (.ldc2_w 266, 3) := by decide +kernel
theorem dX10_sampleCost_7 : decode cX10_sampleCost 7 = .ok (.invokestatic 89, 3) := by decide +kernel
theorem dX10_sampleCost_10 : decode cX10_sampleCost 10 = .ok (.ifCond .eq 11, 3) := by decide +kernel
theorem dX10_sampleCost_13 : decode cX10_sampleCost 13 = .ok (.aload_n 0, 1) := by decide +kernel
theorem dX10_sampleCost_14 : decode cX10_sampleCost 14 = .ok (.iload_n 1, 1) := by decide +kernel
theorem dX10_sampleCost_15 : decode cX10_sampleCost 15 = .ok (.invokevirtual 268, 3) := by decide +kernel
theorem dX10_sampleCost_18 : decode cX10_sampleCost 18 = .ok (.goto 4, 3) := by decide +kernel
theorem dX10_sampleCost_21 : decode cX10_sampleCost 21 = .ok (.iconst (-1), 1) := by decide +kernel
theorem dX10_sampleCost_22 : decode cX10_sampleCost 22 = .ok (.invokevirtual 167, 3) := by decide +kernel
theorem dX10_sampleCost_25 : decode cX10_sampleCost 25 = .ok (.ireturn, 1) := by decide +kernel
def fn_X10_sampleCost (N : Nat) (M : Mem) (a0 : Nat) (x1 : Int32) : Option (Int32 × Mem) :=
  mm_b2 (fn_X10_within N M ((Int32.toInt64 x1)) 0 2000) fun v2 M1 =>
  if v2 = 0 then
    (mm_ck M1 a0 10).bind fun _ => mm_b2 (fn_X10_told N M1 a0 ((-1))) fun v4 M3 =>
    some (v4, M3)
  else
    (mm_ck M1 a0 10).bind fun _ => mm_b2 (fn_X10_costWith N M1 a0 x1) fun v6 M5 =>
    (mm_ck M5 a0 10).bind fun _ => mm_b2 (fn_X10_told N M5 a0 v6) fun v8 M7 =>
    some (v8, M7)
set_option maxRecDepth 100000 in
set_option maxHeartbeats 4000000 in
theorem ct_X10_sampleCost {l : Launch} {ω : Wd} {k N : Nat} {M : Mem} {a0 : Nat} {x1 : Int32} {r : Int32} {M' : Mem} (h : fn_X10_sampleCost N M a0 x1 = some (r, M')) : CM l ω k yX10_sampleCost cX10_sampleCost 2 (some .int) 6 0 0 [.ref a0, .int x1] M (some (.int r)) M' := by
  refine CM.of (by decide) (Nat.le_of_ble_eq_true rfl) fun Γ hl C hr hi => ?_
  subst hl
  unfold fn_X10_sampleCost at h
  refine jv_aload_n C dX10_sampleCost_0 rfl 0 rfl ?_
  refine jv_iload_n C dX10_sampleCost_1 rfl 1 rfl ?_
  refine jv_i2l C dX10_sampleCost_2 ?_
  refine jv_lconst (v := 0) C dX10_sampleCost_3 (by decide) ?_
  refine jv_ldc2 C gw_1722 dX10_sampleCost_4 ?_
  refine jv_sI0 (As := [.long (Int32.toInt64 x1), .long 0, .long 2000]) C lk_X10_89 dX10_sampleCost_7 rfl rfl (by decide) (by decide) (by decide) (Nat.le_of_ble_eq_true rfl) h (fun _ _ h => ct_X10_within h) (fun v2 M1 h => ?_)
  refine jv_if_eq (tgt := 21) C dX10_sampleCost_10 (by decide) h (fun h => ?_) (fun h => ?_)
  · refine jv_iconst (v := (-1)) C dX10_sampleCost_21 (by decide) ?_
    refine jv_vI0 (As := [.int (-1)]) C lk_X10_167 rfl dX10_sampleCost_22 rfl rfl (by decide) (by decide) (by decide) (Nat.le_of_ble_eq_true rfl) h (fun _ _ h => ct_X10_told h) (fun v4 M3 h => ?_)
    exact jv_iret C hr dX10_sampleCost_25 h
  · refine jv_aload_n C dX10_sampleCost_13 rfl 0 rfl ?_
    refine jv_iload_n C dX10_sampleCost_14 rfl 1 rfl ?_
    refine jv_vI0 (As := [.int x1]) C lk_X10_268 rfl dX10_sampleCost_15 rfl rfl (by decide) (by decide) (by decide) (Nat.le_of_ble_eq_true rfl) h (fun _ _ h => ct_X10_costWith h) (fun v6 M5 h => ?_)
    refine jv_goto (tgt := 22) C dX10_sampleCost_18 (by decide) ?_
    refine jv_vI0 (As := [.int v6]) C lk_X10_167 rfl dX10_sampleCost_22 rfl rfl (by decide) (by decide) (by decide) (Nat.le_of_ble_eq_true rfl) h (fun _ _ h => ct_X10_told h) (fun v8 M7 h => ?_)
    exact jv_iret C hr dX10_sampleCost_25 h
theorem dX10_sampleCount_0 : decode cX10_sampleCount 0 = .ok (.aload_n 0, 1) := by decide +kernel
theorem dX10_sampleCount_1 : decode cX10_sampleCount 1 = .ok (.aload_n 0, 1) := by decide +kernel
theorem dX10_sampleCount_2 : decode cX10_sampleCount 2 = .ok (.getfield 29, 3) := by decide +kernel
theorem dX10_sampleCount_5 : decode cX10_sampleCount 5 = .ok (.bipush 9, 2) := by decide +kernel
theorem dX10_sampleCount_7 : decode cX10_sampleCount 7 = .ok (.iaload, 1) := by decide +kernel
theorem dX10_sampleCount_8 : decode cX10_sampleCount 8 = .ok (.invokevirtual 167, 3) := by decide +kernel
theorem dX10_sampleCount_11 : decode cX10_sampleCount 11 = .ok (.ireturn, 1) := by decide +kernel
def fn_X10_sampleCount (N : Nat) (M : Mem) (a0 : Nat) : Option (Int32 × Mem) :=
  (mm_gR M a0 10 16).bind fun b1 =>
  (mm_aI M b1 0 9).bind fun v2 =>
  (mm_ck M a0 10).bind fun _ => mm_b2 (fn_X10_told N M a0 v2) fun v4 M3 =>
  some (v4, M3)
set_option maxRecDepth 100000 in
set_option maxHeartbeats 4000000 in
theorem ct_X10_sampleCount {l : Launch} {ω : Wd} {k N : Nat} {M : Mem} {a0 : Nat} {r : Int32} {M' : Mem} (h : fn_X10_sampleCount N M a0 = some (r, M')) : CM l ω k yX10_sampleCount cX10_sampleCount 1 (some .int) 1 0 0 [.ref a0] M (some (.int r)) M' := by
  refine CM.of (by decide) (Nat.le_of_ble_eq_true rfl) fun Γ hl C hr hi => ?_
  subst hl
  unfold fn_X10_sampleCount at h
  refine jv_aload_n C dX10_sampleCount_0 rfl 0 rfl ?_
  refine jv_aload_n C dX10_sampleCount_1 rfl 0 rfl ?_
  refine jv_getR C fa_X10_29 dX10_sampleCount_2 h (fun b1 h => ?_)
  refine jv_bipush (v := 9) C dX10_sampleCount_5 (by decide) ?_
  refine jv_iald C dX10_sampleCount_7 h (fun v2 h => ?_)
  refine jv_vI0 (As := [.int v2]) C lk_X10_167 rfl dX10_sampleCount_8 rfl rfl (by decide) (by decide) (by decide) (Nat.le_of_ble_eq_true rfl) h (fun _ _ h => ct_X10_told h) (fun v4 M3 h => ?_)
  exact jv_iret C hr dX10_sampleCount_11 h
theorem dX10_saveSnapshot_0 : decode cX10_saveSnapshot 0 = .ok (.aload_n 0, 1) := by decide +kernel
theorem dX10_saveSnapshot_1 : decode cX10_saveSnapshot 1 = .ok (.iconst 0, 1) := by decide +kernel
theorem dX10_saveSnapshot_2 : decode cX10_saveSnapshot 2 = .ok (.putfield 58, 3) := by decide +kernel
theorem dX10_saveSnapshot_5 : decode cX10_saveSnapshot 5 = .ok (.iload_n 1, 1) := by decide +kernel
theorem dX10_saveSnapshot_6 : decode cX10_saveSnapshot 6 = .ok (.i2l, 1) := by decide +kernel
theorem dX10_saveSnapshot_7 : decode cX10_saveSnapshot 7 = .ok (.lconst 0, 1) := by decide +kernel
theorem dX10_saveSnapshot_8 : decode cX10_saveSnapshot 8 = .ok (.lconst 1, 1) := by decide +kernel
theorem dX10_saveSnapshot_9 : decode cX10_saveSnapshot 9 = .ok (.invokestatic 89, 3) := by decide +kernel
theorem dX10_saveSnapshot_12 : decode cX10_saveSnapshot 12 = .ok (.ifCond .ne 5, 3) := by decide +kernel
theorem dX10_saveSnapshot_15 : decode cX10_saveSnapshot 15 = .ok (.iconst 0, 1) := by decide +kernel
theorem dX10_saveSnapshot_16 : decode cX10_saveSnapshot 16 = .ok (.ireturn, 1) := by decide +kernel
theorem dX10_saveSnapshot_17 : decode cX10_saveSnapshot 17 = .ok (.iconst 0, 1) := by decide +kernel
theorem dX10_saveSnapshot_18 : decode cX10_saveSnapshot 18 = .ok (.istore_n 2, 1) := by decide +kernel
theorem dX10_saveSnapshot_19 : decode cX10_saveSnapshot 19 = .ok (.iload_n 2, 1) := by decide +kernel
theorem dX10_saveSnapshot_20 : decode cX10_saveSnapshot 20 = .ok (.sipush 412, 3) := by decide +kernel
theorem dX10_saveSnapshot_23 : decode cX10_saveSnapshot 23 = .ok (.if_icmp .ge 27, 3) := by decide +kernel
theorem dX10_saveSnapshot_26 : decode cX10_saveSnapshot 26 = .ok (.aload_n 0, 1) := by decide +kernel
theorem dX10_saveSnapshot_27 : decode cX10_saveSnapshot 27 = .ok (.getfield 35, 3) := by decide +kernel
theorem dX10_saveSnapshot_30 : decode cX10_saveSnapshot 30 = .ok (.sipush 412, 3) := by decide +kernel
theorem dX10_saveSnapshot_33 : decode cX10_saveSnapshot 33 = .ok (.iload_n 1, 1) := by decide +kernel
theorem dX10_saveSnapshot_34 : decode cX10_saveSnapshot 34 = .ok (.imul, 1) := by decide +kernel
theorem dX10_saveSnapshot_35 : decode cX10_saveSnapshot 35 = .ok (.iload_n 2, 1) := by decide +kernel
theorem dX10_saveSnapshot_36 : decode cX10_saveSnapshot 36 = .ok (.iadd, 1) := by decide +kernel
theorem dX10_saveSnapshot_37 : decode cX10_saveSnapshot 37 = .ok (.aload_n 0, 1) := by decide +kernel
theorem dX10_saveSnapshot_38 : decode cX10_saveSnapshot 38 = .ok (.getfield 29, 3) := by decide +kernel
theorem dX10_saveSnapshot_41 : decode cX10_saveSnapshot 41 = .ok (.iload_n 2, 1) := by decide +kernel
theorem dX10_saveSnapshot_42 : decode cX10_saveSnapshot 42 = .ok (.iaload, 1) := by decide +kernel
theorem dX10_saveSnapshot_43 : decode cX10_saveSnapshot 43 = .ok (.iastore, 1) := by decide +kernel
theorem dX10_saveSnapshot_44 : decode cX10_saveSnapshot 44 = .ok (.iinc 2 1, 3) := by decide +kernel
theorem dX10_saveSnapshot_47 : decode cX10_saveSnapshot 47 = .ok (.goto (-28), 3) := by decide +kernel
theorem dX10_saveSnapshot_50 : decode cX10_saveSnapshot 50 = .ok (.aload_n 0, 1) := by decide +kernel
theorem dX10_saveSnapshot_51 : decode cX10_saveSnapshot 51 = .ok (.getfield 38, 3) := by decide +kernel
theorem dX10_saveSnapshot_54 : decode cX10_saveSnapshot 54 = .ok (.iload_n 1, 1) := by decide +kernel
theorem dX10_saveSnapshot_55 : decode cX10_saveSnapshot 55 = .ok (.iconst 1, 1) := by decide +kernel
theorem dX10_saveSnapshot_56 : decode cX10_saveSnapshot 56 = .ok (.bastore, 1) := by decide +kernel
theorem dX10_saveSnapshot_57 : decode cX10_saveSnapshot 57 = .ok (.iconst 1, 1) := by decide +kernel
theorem dX10_saveSnapshot_58 : decode cX10_saveSnapshot 58 = .ok (.ireturn, 1) := by decide +kernel
def fn_X10_saveSnapshot_19 (N : Nat) : Nat → Mem → Nat → Int32 → Int32 → Option (Int32 × Mem)
  | 0, _, _, _, _ => none
  | n + 1, M, a0, x1, x2 =>
    if 412 ≤ x2 then
      (mm_gR M a0 10 20).bind fun b1 =>
      (mm_sI M b1 3 x1 (vp_nar .boolean 1)).bind fun M2 =>
      some (1, M2)
    else
      (mm_gR M a0 10 19).bind fun b3 =>
      (mm_gR M a0 10 16).bind fun b4 =>
      (mm_aI M b4 0 x2).bind fun v5 =>
      (mm_sI M b3 0 ((412 * x1) + x2) v5).bind fun M6 =>
      fn_X10_saveSnapshot_19 N n M6 a0 x1 ((x2 + 1))
set_option maxRecDepth 100000 in
set_option maxHeartbeats 4000000 in
theorem bk_X10_saveSnapshot_19 {Γ : Gm} {ω : Wd} {k N : Nat} {r : Int32} {M' : Mem} (C : Cx Γ cX10_saveSnapshot 3 RX10 ω 1 0 0) (hr : Γ.meth.sig.returnType = (some .boolean)) : ∀ (n : Nat) (M : Mem) (a0 : Nat) (x1 : Int32) (x2 : Int32), fn_X10_saveSnapshot_19 N n M a0 x1 x2 = some (r, M') → JJ Γ (QF Γ ω k 0 0 (some (.int r)) M') 3 ω k M 0 0 19 [(0, .ref a0), (1, .int x1), (2, .int x2)] [] := by
  intro n
  induction n with
  | zero => intro M a0 x1 x2 h; exact jv_no h
  | succ n ih =>
    intro M a0 x1 x2 h
    rw [fn_X10_saveSnapshot_19.eq_2] at h
    refine jv_iload_n C dX10_saveSnapshot_19 rfl 2 rfl ?_
    refine jv_sipush (v := 412) C dX10_saveSnapshot_20 (by decide) ?_
    refine jv_icmp_ge (tgt := 50) C dX10_saveSnapshot_23 (by decide) h (fun h => ?_) (fun h => ?_)
    · refine jv_aload_n C dX10_saveSnapshot_50 rfl 0 rfl ?_
      refine jv_getR C fa_X10_38 dX10_saveSnapshot_51 h (fun b1 h => ?_)
      refine jv_iload_n C dX10_saveSnapshot_54 rfl 1 rfl ?_
      refine jv_iconst (v := 1) C dX10_saveSnapshot_55 (by decide) ?_
      refine jv_zast C dX10_saveSnapshot_56 h (fun M2 h => ?_)
      refine jv_iconst (v := 1) C dX10_saveSnapshot_57 (by decide) ?_
      exact jv_zretc C hr (Or.inr rfl) dX10_saveSnapshot_58 h
    · refine jv_aload_n C dX10_saveSnapshot_26 rfl 0 rfl ?_
      refine jv_getR C fa_X10_35 dX10_saveSnapshot_27 h (fun b3 h => ?_)
      refine jv_sipush (v := 412) C dX10_saveSnapshot_30 (by decide) ?_
      refine jv_iload_n C dX10_saveSnapshot_33 rfl 1 rfl ?_
      refine jv_imul C dX10_saveSnapshot_34 ?_
      refine jv_iload_n C dX10_saveSnapshot_35 rfl 2 rfl ?_
      refine jv_iadd C dX10_saveSnapshot_36 ?_
      refine jv_aload_n C dX10_saveSnapshot_37 rfl 0 rfl ?_
      refine jv_getR C fa_X10_29 dX10_saveSnapshot_38 h (fun b4 h => ?_)
      refine jv_iload_n C dX10_saveSnapshot_41 rfl 2 rfl ?_
      refine jv_iald C dX10_saveSnapshot_42 h (fun v5 h => ?_)
      refine jv_iast C dX10_saveSnapshot_43 h (fun M6 h => ?_)
      refine jv_iinc (v := 1) (lv' := [(2, .int (x2 + 1)), (0, .ref a0), (1, .int x1)]) C dX10_saveSnapshot_44 2 rfl (by decide) (by decide) rfl ?_
      refine jv_goto (tgt := 19) C dX10_saveSnapshot_47 (by decide) ?_
      refine jv_sub [1, 2, 0] rfl ?_
      exact ih _ _ _ _ h
def fn_X10_saveSnapshot (N : Nat) (M : Mem) (a0 : Nat) (x1 : Int32) : Option (Int32 × Mem) :=
  (mm_pV M a0 10 0 (.int 0)).bind fun M1 =>
  mm_b2 (fn_X10_within N M1 ((Int32.toInt64 x1)) 0 1) fun v3 M2 =>
  if v3 = 0 then
    some (0, M2)
  else
    fn_X10_saveSnapshot_19 N N M2 a0 x1 0
set_option maxRecDepth 100000 in
set_option maxHeartbeats 4000000 in
theorem ct_X10_saveSnapshot {l : Launch} {ω : Wd} {k N : Nat} {M : Mem} {a0 : Nat} {x1 : Int32} {r : Int32} {M' : Mem} (h : fn_X10_saveSnapshot N M a0 x1 = some (r, M')) : CM l ω k yX10_saveSnapshot cX10_saveSnapshot 3 (some .boolean) 1 0 0 [.ref a0, .int x1] M (some (.int r)) M' := by
  refine CM.of (by decide) (Nat.le_of_ble_eq_true rfl) fun Γ hl C hr hi => ?_
  subst hl
  unfold fn_X10_saveSnapshot at h
  refine jv_aload_n C dX10_saveSnapshot_0 rfl 0 rfl ?_
  refine jv_iconst (v := 0) C dX10_saveSnapshot_1 (by decide) ?_
  refine jv_putI C fp_X10_58 dX10_saveSnapshot_2 h (fun M1 h => ?_)
  refine jv_iload_n C dX10_saveSnapshot_5 rfl 1 rfl ?_
  refine jv_i2l C dX10_saveSnapshot_6 ?_
  refine jv_lconst (v := 0) C dX10_saveSnapshot_7 (by decide) ?_
  refine jv_lconst (v := 1) C dX10_saveSnapshot_8 (by decide) ?_
  refine jv_sI0 (As := [.long (Int32.toInt64 x1), .long 0, .long 1]) C lk_X10_89 dX10_saveSnapshot_9 rfl rfl (by decide) (by decide) (by decide) (Nat.le_of_ble_eq_true rfl) h (fun _ _ h => ct_X10_within h) (fun v3 M2 h => ?_)
  refine jv_if_ne (tgt := 17) C dX10_saveSnapshot_12 (by decide) h (fun h => ?_) (fun h => ?_)
  · refine jv_iconst (v := 0) C dX10_saveSnapshot_17 (by decide) ?_
    refine jv_istore_n (lv' := [(2, .int 0), (0, .ref a0), (1, .int x1)]) C dX10_saveSnapshot_18 rfl (by decide) rfl ?_
    refine jv_sub [1, 2, 0] rfl ?_
    exact bk_X10_saveSnapshot_19 C hr _ _ _ _ _ h
  · refine jv_iconst (v := 0) C dX10_saveSnapshot_15 (by decide) ?_
    exact jv_zretc C hr (Or.inl rfl) dX10_saveSnapshot_16 h
theorem dX10_score_0 : decode cX10_score 0 = .ok (.aload_n 0, 1) := by decide +kernel
theorem dX10_score_1 : decode cX10_score 1 = .ok (.iconst 0, 1) := by decide +kernel
theorem dX10_score_2 : decode cX10_score 2 = .ok (.putfield 58, 3) := by decide +kernel
theorem dX10_score_5 : decode cX10_score 5 = .ok (.aload_n 0, 1) := by decide +kernel
theorem dX10_score_6 : decode cX10_score 6 = .ok (.iload_n 1, 1) := by decide +kernel
theorem dX10_score_7 : decode cX10_score 7 = .ok (.invokevirtual 170, 3) := by decide +kernel
theorem dX10_score_10 : decode cX10_score 10 = .ok (.ifCond .ne 9, 3) := by decide +kernel
theorem dX10_score_13 : decode cX10_score 13 = .ok (.aload_n 0, 1) := by decide +kernel
theorem dX10_score_14 : decode cX10_score 14 = .ok (.iconst 1, 1) := by decide +kernel
theorem dX10_score_15 : decode cX10_score 15 = .ok (.invokevirtual 205, 3) := by decide +kernel
theorem dX10_score_18 : decode cX10_score 18 = .ok (.ireturn, 1) := by decide +kernel
theorem dX10_score_19 : decode cX10_score 19 = .ok (.iload_n 2, 1) := by decide +kernel
theorem dX10_score_20 : decode cX10_score 20 = .ok (.iload_n 3, 1) := by decide +kernel
theorem dX10_score_21 : decode cX10_score 21 = .ok (.invokestatic 208, 3) := by decide +kernel
theorem dX10_score_24 : decode cX10_score 24 = .ok (.ifCond .ne 9, 3) := by decide +kernel
theorem dX10_score_27 : decode cX10_score 27 = .ok (.aload_n 0, 1) := by decide +kernel
theorem dX10_score_28 : decode cX10_score 28 = .ok (.iconst 2, 1) := by decide +kernel
theorem dX10_score_29 : decode cX10_score 29 = .ok (.invokevirtual 205, 3) := by decide +kernel
theorem dX10_score_32 : decode cX10_score 32 = .ok (.ireturn, 1) := by decide +kernel
theorem dX10_score_33 : decode cX10_score 33 = .ok (.aload_n 0, 1) := by decide +kernel
theorem dX10_score_34 : decode cX10_score 34 = .ok (.iload_n 1, 1) := by decide +kernel
theorem dX10_score_35 : decode cX10_score 35 = .ok (.iload_n 2, 1) := by decide +kernel
theorem dX10_score_36 : decode cX10_score 36 = .ok (.iload_n 3, 1) := by decide +kernel
theorem dX10_score_37 : decode cX10_score 37 = .ok (.invokevirtual 193, 3) := by decide +kernel
theorem dX10_score_40 : decode cX10_score 40 = .ok (.istore 4, 2) := by decide +kernel
theorem dX10_score_42 : decode cX10_score 42 = .ok (.iload 4, 2) := by decide +kernel
theorem dX10_score_44 : decode cX10_score 44 = .ok (.ldc 180, 2) := by decide +kernel
theorem dX10_score_46 : decode cX10_score 46 = .ok (.if_icmp .ne 8, 3) := by decide +kernel
theorem dX10_score_49 : decode cX10_score 49 = .ok (.bipush (-2), 2) := by decide +kernel
theorem dX10_score_51 : decode cX10_score 51 = .ok (.goto 5, 3) := by decide +kernel
theorem dX10_score_54 : decode cX10_score 54 = .ok (.iload 4, 2) := by decide +kernel
theorem dX10_score_56 : decode cX10_score 56 = .ok (.ireturn, 1) := by decide +kernel
def fn_X10_score (N : Nat) (M : Mem) (a0 : Nat) (x1 : Int32) (x2 : Int32) (x3 : Int32) : Option (Int32 × Mem) :=
  (mm_pV M a0 10 0 (.int 0)).bind fun M1 =>
  (mm_ck M1 a0 10).bind fun _ => mm_b2 (fn_X10_isType N M1 a0 x1) fun v3 M2 =>
  if v3 = 0 then
    (mm_ck M2 a0 10).bind fun _ => mm_b2 (fn_X10_fail N M2 a0 1) fun v11 M10 =>
    some (v11, M10)
  else
    mm_b2 (fn_X10_isCoin N M2 x2 x3) fun v5 M4 =>
    if v5 = 0 then
      (mm_ck M4 a0 10).bind fun _ => mm_b2 (fn_X10_fail N M4 a0 2) fun v9 M8 =>
      some (v9, M8)
    else
      (mm_ck M4 a0 10).bind fun _ => mm_b2 (fn_X10_scoreFor N M4 a0 x1 x2 x3) fun v7 M6 =>
      if v7 = 1000000 then
        some ((-2), M6)
      else
        some (v7, M6)
set_option maxRecDepth 100000 in
set_option maxHeartbeats 4000000 in
theorem ct_X10_score {l : Launch} {ω : Wd} {k N : Nat} {M : Mem} {a0 : Nat} {x1 : Int32} {x2 : Int32} {x3 : Int32} {r : Int32} {M' : Mem} (h : fn_X10_score N M a0 x1 x2 x3 = some (r, M')) : CM l ω k yX10_score cX10_score 5 (some .int) 2 0 0 [.ref a0, .int x1, .int x2, .int x3] M (some (.int r)) M' := by
  refine CM.of (by decide) (Nat.le_of_ble_eq_true rfl) fun Γ hl C hr hi => ?_
  subst hl
  unfold fn_X10_score at h
  refine jv_aload_n C dX10_score_0 rfl 0 rfl ?_
  refine jv_iconst (v := 0) C dX10_score_1 (by decide) ?_
  refine jv_putI C fp_X10_58 dX10_score_2 h (fun M1 h => ?_)
  refine jv_aload_n C dX10_score_5 rfl 0 rfl ?_
  refine jv_iload_n C dX10_score_6 rfl 1 rfl ?_
  refine jv_vI0 (As := [.int x1]) C lk_X10_170 rfl dX10_score_7 rfl rfl (by decide) (by decide) (by decide) (Nat.le_of_ble_eq_true rfl) h (fun _ _ h => ct_X10_isType h) (fun v3 M2 h => ?_)
  refine jv_if_ne (tgt := 19) C dX10_score_10 (by decide) h (fun h => ?_) (fun h => ?_)
  · refine jv_iload_n C dX10_score_19 rfl 2 rfl ?_
    refine jv_iload_n C dX10_score_20 rfl 3 rfl ?_
    refine jv_sI0 (As := [.int x2, .int x3]) C lk_X10_208 dX10_score_21 rfl rfl (by decide) (by decide) (by decide) (Nat.le_of_ble_eq_true rfl) h (fun _ _ h => ct_X10_isCoin h) (fun v5 M4 h => ?_)
    refine jv_if_ne (tgt := 33) C dX10_score_24 (by decide) h (fun h => ?_) (fun h => ?_)
    · refine jv_aload_n C dX10_score_33 rfl 0 rfl ?_
      refine jv_iload_n C dX10_score_34 rfl 1 rfl ?_
      refine jv_iload_n C dX10_score_35 rfl 2 rfl ?_
      refine jv_iload_n C dX10_score_36 rfl 3 rfl ?_
      refine jv_vI0 (As := [.int x1, .int x2, .int x3]) C lk_X10_193 rfl dX10_score_37 rfl rfl (by decide) (by decide) (by decide) (Nat.le_of_ble_eq_true rfl) h (fun _ _ h => ct_X10_scoreFor h) (fun v7 M6 h => ?_)
      refine jv_istore (lv' := [(4, .int v7), (0, .ref a0), (1, .int x1), (2, .int x2), (3, .int x3)]) C dX10_score_40 (by decide) rfl ?_
      refine jv_iload C dX10_score_42 0 rfl ?_
      refine jv_ldc C gw_1563 dX10_score_44 ?_
      refine jv_icmp_ne (tgt := 54) C dX10_score_46 (by decide) h (fun h => ?_) (fun h => ?_)
      · refine jv_iload C dX10_score_54 0 rfl ?_
        exact jv_iret C hr dX10_score_56 h
      · refine jv_bipush (v := (-2)) C dX10_score_49 (by decide) ?_
        refine jv_goto (tgt := 56) C dX10_score_51 (by decide) ?_
        exact jv_iret C hr dX10_score_56 h
    · refine jv_aload_n C dX10_score_27 rfl 0 rfl ?_
      refine jv_iconst (v := 2) C dX10_score_28 (by decide) ?_
      refine jv_vI0 (As := [.int 2]) C lk_X10_205 rfl dX10_score_29 rfl rfl (by decide) (by decide) (by decide) (Nat.le_of_ble_eq_true rfl) h (fun _ _ h => ct_X10_fail h) (fun v9 M8 h => ?_)
      exact jv_iret C hr dX10_score_32 h
  · refine jv_aload_n C dX10_score_13 rfl 0 rfl ?_
    refine jv_iconst (v := 1) C dX10_score_14 (by decide) ?_
    refine jv_vI0 (As := [.int 1]) C lk_X10_205 rfl dX10_score_15 rfl rfl (by decide) (by decide) (by decide) (Nat.le_of_ble_eq_true rfl) h (fun _ _ h => ct_X10_fail h) (fun v11 M10 h => ?_)
    exact jv_iret C hr dX10_score_18 h
theorem dX10_setMargin_0 : decode cX10_setMargin 0 = .ok (.aload_n 0, 1) := by decide +kernel
theorem dX10_setMargin_1 : decode cX10_setMargin 1 = .ok (.iconst 0, 1) := by decide +kernel
theorem dX10_setMargin_2 : decode cX10_setMargin 2 = .ok (.putfield 58, 3) := by decide +kernel
theorem dX10_setMargin_5 : decode cX10_setMargin 5 = .ok (.iload_n 1, 1) := by decide +kernel
theorem dX10_setMargin_6 : decode cX10_setMargin 6 = .ok (.i2l, 1) := by decide +kernel
theorem dX10_setMargin_7 : decode cX10_setMargin 7 = .ok (.lconst 0, 1) := by decide +kernel
theorem dX10_setMargin_8 : decode cX10_setMargin 8 = .ok (.ldc2_w 266, 3) := by decide +kernel
theorem dX10_setMargin_11 : decode cX10_setMargin 11 = .ok (.invokestatic 89, 3) := by decide +kernel
theorem dX10_setMargin_14 : decode cX10_setMargin 14 = .ok (.ifCond .ne 5, 3) := by decide +kernel
theorem dX10_setMargin_17 : decode cX10_setMargin 17 = .ok (.iconst (-1), 1) := by decide +kernel
theorem dX10_setMargin_18 : decode cX10_setMargin 18 = .ok (.ireturn, 1) := by decide +kernel
theorem dX10_setMargin_19 : decode cX10_setMargin 19 = .ok (.aload_n 0, 1) := by decide +kernel
theorem dX10_setMargin_20 : decode cX10_setMargin 20 = .ok (.invokevirtual 271, 3) := by decide +kernel
theorem dX10_setMargin_23 : decode cX10_setMargin 23 = .ok (.aload_n 0, 1) := by decide +kernel
theorem dX10_setMargin_24 : decode cX10_setMargin 24 = .ok (.getfield 29, 3) := by decide +kernel
theorem dX10_setMargin_27 : decode cX10_setMargin 27 = .ok (.iconst 2, 1) := by decide +kernel
theorem dX10_setMargin_28 : decode cX10_setMargin 28 = .ok (.iaload, 1) := by decide +kernel
theorem dX10_setMargin_29 : decode cX10_setMargin 29 = .ok (.istore_n 2, 1) := by decide +kernel
theorem dX10_setMargin_30 : decode cX10_setMargin 30 = .ok (.aload_n 0, 1) := by decide +kernel
theorem dX10_setMargin_31 : decode cX10_setMargin 31 = .ok (.getfield 29, 3) := by decide +kernel
theorem dX10_setMargin_34 : decode cX10_setMargin 34 = .ok (.iconst 2, 1) := by decide +kernel
theorem dX10_setMargin_35 : decode cX10_setMargin 35 = .ok (.iload_n 1, 1) := by decide +kernel
theorem dX10_setMargin_36 : decode cX10_setMargin 36 = .ok (.iastore, 1) := by decide +kernel
theorem dX10_setMargin_37 : decode cX10_setMargin 37 = .ok (.iload_n 2, 1) := by decide +kernel
theorem dX10_setMargin_38 : decode cX10_setMargin 38 = .ok (.ireturn, 1) := by decide +kernel
def fn_X10_setMargin (N : Nat) (M : Mem) (a0 : Nat) (x1 : Int32) : Option (Int32 × Mem) :=
  (mm_pV M a0 10 0 (.int 0)).bind fun M1 =>
  mm_b2 (fn_X10_within N M1 ((Int32.toInt64 x1)) 0 2000) fun v3 M2 =>
  if v3 = 0 then
    some ((-1), M2)
  else
    (mm_ck M2 a0 10).bind fun _ => mm_b2 (fn_X10_keep N M2 a0) fun _ M4 =>
    (mm_gR M4 a0 10 16).bind fun b5 =>
    (mm_aI M4 b5 0 2).bind fun v6 =>
    (mm_gR M4 a0 10 16).bind fun b7 =>
    (mm_sI M4 b7 0 2 x1).bind fun M8 =>
    some (v6, M8)
set_option maxRecDepth 100000 in
set_option maxHeartbeats 4000000 in
theorem ct_X10_setMargin {l : Launch} {ω : Wd} {k N : Nat} {M : Mem} {a0 : Nat} {x1 : Int32} {r : Int32} {M' : Mem} (h : fn_X10_setMargin N M a0 x1 = some (r, M')) : CM l ω k yX10_setMargin cX10_setMargin 3 (some .int) 1 0 0 [.ref a0, .int x1] M (some (.int r)) M' := by
  refine CM.of (by decide) (Nat.le_of_ble_eq_true rfl) fun Γ hl C hr hi => ?_
  subst hl
  unfold fn_X10_setMargin at h
  refine jv_aload_n C dX10_setMargin_0 rfl 0 rfl ?_
  refine jv_iconst (v := 0) C dX10_setMargin_1 (by decide) ?_
  refine jv_putI C fp_X10_58 dX10_setMargin_2 h (fun M1 h => ?_)
  refine jv_iload_n C dX10_setMargin_5 rfl 1 rfl ?_
  refine jv_i2l C dX10_setMargin_6 ?_
  refine jv_lconst (v := 0) C dX10_setMargin_7 (by decide) ?_
  refine jv_ldc2 C gw_1722 dX10_setMargin_8 ?_
  refine jv_sI0 (As := [.long (Int32.toInt64 x1), .long 0, .long 2000]) C lk_X10_89 dX10_setMargin_11 rfl rfl (by decide) (by decide) (by decide) (Nat.le_of_ble_eq_true rfl) h (fun _ _ h => ct_X10_within h) (fun v3 M2 h => ?_)
  refine jv_if_ne (tgt := 19) C dX10_setMargin_14 (by decide) h (fun h => ?_) (fun h => ?_)
  · refine jv_aload_n C dX10_setMargin_19 rfl 0 rfl ?_
    refine jv_vV0 (As := []) C lk_X10_271 rfl dX10_setMargin_20 rfl rfl (by decide) (by decide) (by decide) (Nat.le_of_ble_eq_true rfl) h (fun _ _ h => ct_X10_keep h) (fun _ M4 h => ?_)
    refine jv_aload_n C dX10_setMargin_23 rfl 0 rfl ?_
    refine jv_getR C fa_X10_29 dX10_setMargin_24 h (fun b5 h => ?_)
    refine jv_iconst (v := 2) C dX10_setMargin_27 (by decide) ?_
    refine jv_iald C dX10_setMargin_28 h (fun v6 h => ?_)
    refine jv_istore_n (lv' := [(2, .int v6), (0, .ref a0), (1, .int x1)]) C dX10_setMargin_29 rfl (by decide) rfl ?_
    refine jv_aload_n C dX10_setMargin_30 rfl 1 rfl ?_
    refine jv_getR C fa_X10_29 dX10_setMargin_31 h (fun b7 h => ?_)
    refine jv_iconst (v := 2) C dX10_setMargin_34 (by decide) ?_
    refine jv_iload_n C dX10_setMargin_35 rfl 2 rfl ?_
    refine jv_iast C dX10_setMargin_36 h (fun M8 h => ?_)
    refine jv_iload_n C dX10_setMargin_37 rfl 0 rfl ?_
    exact jv_iret C hr dX10_setMargin_38 h
  · refine jv_iconst (v := (-1)) C dX10_setMargin_17 (by decide) ?_
    exact jv_iret C hr dX10_setMargin_18 h
theorem dX10_step_0 : decode cX10_step 0 = .ok (.aload_n 0, 1) := by decide +kernel
theorem dX10_step_1 : decode cX10_step 1 = .ok (.iconst 0, 1) := by decide +kernel
theorem dX10_step_2 : decode cX10_step 2 = .ok (.putfield 58, 3) := by decide +kernel
theorem dX10_step_5 : decode cX10_step 5 = .ok (.aload_n 0, 1) := by decide +kernel
theorem dX10_step_6 : decode cX10_step 6 = .ok (.invokevirtual 227, 3) := by decide +kernel
theorem dX10_step_9 : decode cX10_step 9 = .ok (.istore_n 1, 1) := by decide +kernel
theorem dX10_step_10 : decode cX10_step 10 = .ok (.aload_n 0, 1) := by decide +kernel
theorem dX10_step_11 : decode cX10_step 11 = .ok (.iload_n 1, 1) := by decide +kernel
theorem dX10_step_12 : decode cX10_step 12 = .ok (.invokevirtual 283, 3) := by decide +kernel
theorem dX10_step_15 : decode cX10_step 15 = .ok (.ifCond .ne 6, 3) := by decide +kernel
theorem dX10_step_18 : decode cX10_step 18 = .ok (.bipush (-2), 2) := by decide +kernel
theorem dX10_step_20 : decode cX10_step 20 = .ok (.ireturn, 1) := by decide +kernel
theorem dX10_step_21 : decode cX10_step 21 = .ok (.aload_n 0, 1) := by decide +kernel
theorem dX10_step_22 : decode cX10_step 22 = .ok (.invokevirtual 271, 3) := by decide +kernel
theorem dX10_step_25 : decode cX10_step 25 = .ok (.aload_n 0, 1) := by decide +kernel
theorem dX10_step_26 : decode cX10_step 26 = .ok (.iload_n 1, 1) := by decide +kernel
theorem dX10_step_27 : decode cX10_step 27 = .ok (.invokevirtual 286, 3) := by decide +kernel
theorem dX10_step_30 : decode cX10_step 30 = .ok (.iload_n 1, 1) := by decide +kernel
theorem dX10_step_31 : decode cX10_step 31 = .ok (.ireturn, 1) := by decide +kernel
def fn_X10_step (N : Nat) (M : Mem) (a0 : Nat) : Option (Int32 × Mem) :=
  (mm_pV M a0 10 0 (.int 0)).bind fun M1 =>
  (mm_ck M1 a0 10).bind fun _ => mm_b2 (fn_X10_nextOutcome N M1 a0) fun v3 M2 =>
  (mm_ck M2 a0 10).bind fun _ => mm_b2 (fn_X10_isStep N M2 a0 v3) fun v5 M4 =>
  if v5 = 0 then
    some ((-2), M4)
  else
    (mm_ck M4 a0 10).bind fun _ => mm_b2 (fn_X10_keep N M4 a0) fun _ M6 =>
    (mm_ck M6 a0 10).bind fun _ => mm_b2 (fn_X10_doStep N M6 a0 v3) fun _ M7 =>
    some (v3, M7)
set_option maxRecDepth 100000 in
set_option maxHeartbeats 4000000 in
theorem ct_X10_step {l : Launch} {ω : Wd} {k N : Nat} {M : Mem} {a0 : Nat} {r : Int32} {M' : Mem} (h : fn_X10_step N M a0 = some (r, M')) : CM l ω k yX10_step cX10_step 2 (some .int) 5 0 0 [.ref a0] M (some (.int r)) M' := by
  refine CM.of (by decide) (Nat.le_of_ble_eq_true rfl) fun Γ hl C hr hi => ?_
  subst hl
  unfold fn_X10_step at h
  refine jv_aload_n C dX10_step_0 rfl 0 rfl ?_
  refine jv_iconst (v := 0) C dX10_step_1 (by decide) ?_
  refine jv_putI C fp_X10_58 dX10_step_2 h (fun M1 h => ?_)
  refine jv_aload_n C dX10_step_5 rfl 0 rfl ?_
  refine jv_vI0 (As := []) C lk_X10_227 rfl dX10_step_6 rfl rfl (by decide) (by decide) (by decide) (Nat.le_of_ble_eq_true rfl) h (fun _ _ h => ct_X10_nextOutcome h) (fun v3 M2 h => ?_)
  refine jv_istore_n (lv' := [(1, .int v3), (0, .ref a0)]) C dX10_step_9 rfl (by decide) rfl ?_
  refine jv_aload_n C dX10_step_10 rfl 1 rfl ?_
  refine jv_iload_n C dX10_step_11 rfl 0 rfl ?_
  refine jv_vI0 (As := [.int v3]) C lk_X10_283 rfl dX10_step_12 rfl rfl (by decide) (by decide) (by decide) (Nat.le_of_ble_eq_true rfl) h (fun _ _ h => ct_X10_isStep h) (fun v5 M4 h => ?_)
  refine jv_if_ne (tgt := 21) C dX10_step_15 (by decide) h (fun h => ?_) (fun h => ?_)
  · refine jv_aload_n C dX10_step_21 rfl 1 rfl ?_
    refine jv_vV0 (As := []) C lk_X10_271 rfl dX10_step_22 rfl rfl (by decide) (by decide) (by decide) (Nat.le_of_ble_eq_true rfl) h (fun _ _ h => ct_X10_keep h) (fun _ M6 h => ?_)
    refine jv_aload_n C dX10_step_25 rfl 1 rfl ?_
    refine jv_iload_n C dX10_step_26 rfl 0 rfl ?_
    refine jv_vV0 (As := [.int v3]) C lk_X10_286 rfl dX10_step_27 rfl rfl (by decide) (by decide) (by decide) (Nat.le_of_ble_eq_true rfl) h (fun _ _ h => ct_X10_doStep h) (fun _ M7 h => ?_)
    refine jv_iload_n C dX10_step_30 rfl 0 rfl ?_
    exact jv_iret C hr dX10_step_31 h
  · refine jv_bipush (v := (-2)) C dX10_step_18 (by decide) ?_
    exact jv_iret C hr dX10_step_20 h
theorem dX10_stepCount_0 : decode cX10_stepCount 0 = .ok (.aload_n 0, 1) := by decide +kernel
theorem dX10_stepCount_1 : decode cX10_stepCount 1 = .ok (.aload_n 0, 1) := by decide +kernel
theorem dX10_stepCount_2 : decode cX10_stepCount 2 = .ok (.getfield 29, 3) := by decide +kernel
theorem dX10_stepCount_5 : decode cX10_stepCount 5 = .ok (.bipush 6, 2) := by decide +kernel
theorem dX10_stepCount_7 : decode cX10_stepCount 7 = .ok (.iaload, 1) := by decide +kernel
theorem dX10_stepCount_8 : decode cX10_stepCount 8 = .ok (.invokevirtual 167, 3) := by decide +kernel
theorem dX10_stepCount_11 : decode cX10_stepCount 11 = .ok (.ireturn, 1) := by decide +kernel
def fn_X10_stepCount (N : Nat) (M : Mem) (a0 : Nat) : Option (Int32 × Mem) :=
  (mm_gR M a0 10 16).bind fun b1 =>
  (mm_aI M b1 0 6).bind fun v2 =>
  (mm_ck M a0 10).bind fun _ => mm_b2 (fn_X10_told N M a0 v2) fun v4 M3 =>
  some (v4, M3)
set_option maxRecDepth 100000 in
set_option maxHeartbeats 4000000 in
theorem ct_X10_stepCount {l : Launch} {ω : Wd} {k N : Nat} {M : Mem} {a0 : Nat} {r : Int32} {M' : Mem} (h : fn_X10_stepCount N M a0 = some (r, M')) : CM l ω k yX10_stepCount cX10_stepCount 1 (some .int) 1 0 0 [.ref a0] M (some (.int r)) M' := by
  refine CM.of (by decide) (Nat.le_of_ble_eq_true rfl) fun Γ hl C hr hi => ?_
  subst hl
  unfold fn_X10_stepCount at h
  refine jv_aload_n C dX10_stepCount_0 rfl 0 rfl ?_
  refine jv_aload_n C dX10_stepCount_1 rfl 0 rfl ?_
  refine jv_getR C fa_X10_29 dX10_stepCount_2 h (fun b1 h => ?_)
  refine jv_bipush (v := 6) C dX10_stepCount_5 (by decide) ?_
  refine jv_iald C dX10_stepCount_7 h (fun v2 h => ?_)
  refine jv_vI0 (As := [.int v2]) C lk_X10_167 rfl dX10_stepCount_8 rfl rfl (by decide) (by decide) (by decide) (Nat.le_of_ble_eq_true rfl) h (fun _ _ h => ct_X10_told h) (fun v4 M3 h => ?_)
  exact jv_iret C hr dX10_stepCount_11 h
theorem dX10_thrown_0 : decode cX10_thrown 0 = .ok (.aload_n 0, 1) := by decide +kernel
theorem dX10_thrown_1 : decode cX10_thrown 1 = .ok (.getfield 58, 3) := by decide +kernel
theorem dX10_thrown_4 : decode cX10_thrown 4 = .ok (.ireturn, 1) := by decide +kernel
def fn_X10_thrown (N : Nat) (M : Mem) (a0 : Nat) : Option (Int32 × Mem) :=
  (mm_gI M a0 10 0).bind fun v1 =>
  some (v1, M)
set_option maxRecDepth 100000 in
set_option maxHeartbeats 4000000 in
theorem ct_X10_thrown {l : Launch} {ω : Wd} {k N : Nat} {M : Mem} {a0 : Nat} {r : Int32} {M' : Mem} (h : fn_X10_thrown N M a0 = some (r, M')) : CM l ω k yX10_thrown cX10_thrown 1 (some .int) 0 0 0 [.ref a0] M (some (.int r)) M' := by
  refine CM.of (by decide) (Nat.le_of_ble_eq_true rfl) fun Γ hl C hr hi => ?_
  subst hl
  unfold fn_X10_thrown at h
  refine jv_aload_n C dX10_thrown_0 rfl 0 rfl ?_
  refine jv_getI C fa_X10_58 dX10_thrown_1 h (fun v1 h => ?_)
  exact jv_iret C hr dX10_thrown_4 h
theorem dX10_typeCount_0 : decode cX10_typeCount 0 = .ok (.aload_n 0, 1) := by decide +kernel
theorem dX10_typeCount_1 : decode cX10_typeCount 1 = .ok (.aload_n 0, 1) := by decide +kernel
theorem dX10_typeCount_2 : decode cX10_typeCount 2 = .ok (.getfield 13, 3) := by decide +kernel
theorem dX10_typeCount_5 : decode cX10_typeCount 5 = .ok (.iconst 0, 1) := by decide +kernel
theorem dX10_typeCount_6 : decode cX10_typeCount 6 = .ok (.iaload, 1) := by decide +kernel
theorem dX10_typeCount_7 : decode cX10_typeCount 7 = .ok (.invokevirtual 167, 3) := by decide +kernel
theorem dX10_typeCount_10 : decode cX10_typeCount 10 = .ok (.ireturn, 1) := by decide +kernel
def fn_X10_typeCount (N : Nat) (M : Mem) (a0 : Nat) : Option (Int32 × Mem) :=
  (mm_gR M a0 10 10).bind fun b1 =>
  (mm_aI M b1 0 0).bind fun v2 =>
  (mm_ck M a0 10).bind fun _ => mm_b2 (fn_X10_told N M a0 v2) fun v4 M3 =>
  some (v4, M3)
set_option maxRecDepth 100000 in
set_option maxHeartbeats 4000000 in
theorem ct_X10_typeCount {l : Launch} {ω : Wd} {k N : Nat} {M : Mem} {a0 : Nat} {r : Int32} {M' : Mem} (h : fn_X10_typeCount N M a0 = some (r, M')) : CM l ω k yX10_typeCount cX10_typeCount 1 (some .int) 1 0 0 [.ref a0] M (some (.int r)) M' := by
  refine CM.of (by decide) (Nat.le_of_ble_eq_true rfl) fun Γ hl C hr hi => ?_
  subst hl
  unfold fn_X10_typeCount at h
  refine jv_aload_n C dX10_typeCount_0 rfl 0 rfl ?_
  refine jv_aload_n C dX10_typeCount_1 rfl 0 rfl ?_
  refine jv_getR C fa_X10_13 dX10_typeCount_2 h (fun b1 h => ?_)
  refine jv_iconst (v := 0) C dX10_typeCount_5 (by decide) ?_
  refine jv_iald C dX10_typeCount_6 h (fun v2 h => ?_)
  refine jv_vI0 (As := [.int v2]) C lk_X10_167 rfl dX10_typeCount_7 rfl rfl (by decide) (by decide) (by decide) (Nat.le_of_ble_eq_true rfl) h (fun _ _ h => ct_X10_told h) (fun v4 M3 h => ?_)
  exact jv_iret C hr dX10_typeCount_10 h
theorem dX10_typeValue_0 : decode cX10_typeValue 0 = .ok (.aload_n 0, 1) := by decide +kernel
theorem dX10_typeValue_1 : decode cX10_typeValue 1 = .ok (.aload_n 0, 1) := by decide +kernel
theorem dX10_typeValue_2 : decode cX10_typeValue 2 = .ok (.iload_n 1, 1) := by decide +kernel
theorem dX10_typeValue_3 : decode cX10_typeValue 3 = .ok (.invokevirtual 170, 3) := by decide +kernel
theorem dX10_typeValue_6 : decode cX10_typeValue 6 = .ok (.ifCond .eq 16, 3) := by decide +kernel
theorem dX10_typeValue_9 : decode cX10_typeValue 9 = .ok (.aload_n 0, 1) := by decide +kernel
theorem dX10_typeValue_10 : decode cX10_typeValue 10 = .ok (.getfield 20, 3) := by decide +kernel
theorem dX10_typeValue_13 : decode cX10_typeValue 13 = .ok (.iconst 5, 1) := by decide +kernel
theorem dX10_typeValue_14 : decode cX10_typeValue 14 = .ok (.iload_n 1, 1) := by decide +kernel
theorem dX10_typeValue_15 : decode cX10_typeValue 15 = .ok (.imul, 1) := by decide +kernel
theorem dX10_typeValue_16 : decode cX10_typeValue 16 = .ok (.iconst 0, 1) := by decide +kernel
theorem dX10_typeValue_17 : decode cX10_typeValue 17 = .ok (.iadd, 1) := by decide +kernel
theorem dX10_typeValue_18 : decode cX10_typeValue 18 = .ok (.iaload, 1) := by decide +kernel
theorem dX10_typeValue_19 : decode cX10_typeValue 19 = .ok (.goto 4, 3) := by decide +kernel
theorem dX10_typeValue_22 : decode cX10_typeValue 22 = .ok (.iconst (-1), 1) := by decide +kernel
theorem dX10_typeValue_23 : decode cX10_typeValue 23 = .ok (.invokevirtual 167, 3) := by decide +kernel
theorem dX10_typeValue_26 : decode cX10_typeValue 26 = .ok (.ireturn, 1) := by decide +kernel
def fn_X10_typeValue (N : Nat) (M : Mem) (a0 : Nat) (x1 : Int32) : Option (Int32 × Mem) :=
  (mm_ck M a0 10).bind fun _ => mm_b2 (fn_X10_isType N M a0 x1) fun v2 M1 =>
  if v2 = 0 then
    (mm_ck M1 a0 10).bind fun _ => mm_b2 (fn_X10_told N M1 a0 ((-1))) fun v4 M3 =>
    some (v4, M3)
  else
    (mm_gR M1 a0 10 12).bind fun b5 =>
    (mm_aI M1 b5 0 ((5 * x1) + 0)).bind fun v6 =>
    (mm_ck M1 a0 10).bind fun _ => mm_b2 (fn_X10_told N M1 a0 v6) fun v8 M7 =>
    some (v8, M7)
set_option maxRecDepth 100000 in
set_option maxHeartbeats 4000000 in
theorem ct_X10_typeValue {l : Launch} {ω : Wd} {k N : Nat} {M : Mem} {a0 : Nat} {x1 : Int32} {r : Int32} {M' : Mem} (h : fn_X10_typeValue N M a0 x1 = some (r, M')) : CM l ω k yX10_typeValue cX10_typeValue 2 (some .int) 2 0 0 [.ref a0, .int x1] M (some (.int r)) M' := by
  refine CM.of (by decide) (Nat.le_of_ble_eq_true rfl) fun Γ hl C hr hi => ?_
  subst hl
  unfold fn_X10_typeValue at h
  refine jv_aload_n C dX10_typeValue_0 rfl 0 rfl ?_
  refine jv_aload_n C dX10_typeValue_1 rfl 0 rfl ?_
  refine jv_iload_n C dX10_typeValue_2 rfl 1 rfl ?_
  refine jv_vI0 (As := [.int x1]) C lk_X10_170 rfl dX10_typeValue_3 rfl rfl (by decide) (by decide) (by decide) (Nat.le_of_ble_eq_true rfl) h (fun _ _ h => ct_X10_isType h) (fun v2 M1 h => ?_)
  refine jv_if_eq (tgt := 22) C dX10_typeValue_6 (by decide) h (fun h => ?_) (fun h => ?_)
  · refine jv_iconst (v := (-1)) C dX10_typeValue_22 (by decide) ?_
    refine jv_vI0 (As := [.int (-1)]) C lk_X10_167 rfl dX10_typeValue_23 rfl rfl (by decide) (by decide) (by decide) (Nat.le_of_ble_eq_true rfl) h (fun _ _ h => ct_X10_told h) (fun v4 M3 h => ?_)
    exact jv_iret C hr dX10_typeValue_26 h
  · refine jv_aload_n C dX10_typeValue_9 rfl 0 rfl ?_
    refine jv_getR C fa_X10_20 dX10_typeValue_10 h (fun b5 h => ?_)
    refine jv_iconst (v := 5) C dX10_typeValue_13 (by decide) ?_
    refine jv_iload_n C dX10_typeValue_14 rfl 1 rfl ?_
    refine jv_imul C dX10_typeValue_15 ?_
    refine jv_iconst (v := 0) C dX10_typeValue_16 (by decide) ?_
    refine jv_iadd C dX10_typeValue_17 ?_
    refine jv_iald C dX10_typeValue_18 h (fun v6 h => ?_)
    refine jv_goto (tgt := 23) C dX10_typeValue_19 (by decide) ?_
    refine jv_vI0 (As := [.int v6]) C lk_X10_167 rfl dX10_typeValue_23 rfl rfl (by decide) (by decide) (by decide) (Nat.le_of_ble_eq_true rfl) h (fun _ _ h => ct_X10_told h) (fun v8 M7 h => ?_)
    exact jv_iret C hr dX10_typeValue_26 h
theorem dX10_undo_0 : decode cX10_undo 0 = .ok (.aload_n 0, 1) := by decide +kernel
theorem dX10_undo_1 : decode cX10_undo 1 = .ok (.iconst 0, 1) := by decide +kernel
theorem dX10_undo_2 : decode cX10_undo 2 = .ok (.putfield 58, 3) := by decide +kernel
theorem dX10_undo_5 : decode cX10_undo 5 = .ok (.aload_n 0, 1) := by decide +kernel
theorem dX10_undo_6 : decode cX10_undo 6 = .ok (.getfield 160, 3) := by decide +kernel
theorem dX10_undo_9 : decode cX10_undo 9 = .ok (.ifCond .ne 6, 3) := by decide +kernel
theorem dX10_undo_12 : decode cX10_undo 12 = .ok (.bipush (-2), 2) := by decide +kernel
theorem dX10_undo_14 : decode cX10_undo 14 = .ok (.ireturn, 1) := by decide +kernel
theorem dX10_undo_15 : decode cX10_undo 15 = .ok (.aload_n 0, 1) := by decide +kernel
theorem dX10_undo_16 : decode cX10_undo 16 = .ok (.dup, 1) := by decide +kernel
theorem dX10_undo_17 : decode cX10_undo 17 = .ok (.getfield 160, 3) := by decide +kernel
theorem dX10_undo_20 : decode cX10_undo 20 = .ok (.iconst 1, 1) := by decide +kernel
theorem dX10_undo_21 : decode cX10_undo 21 = .ok (.isub, 1) := by decide +kernel
theorem dX10_undo_22 : decode cX10_undo 22 = .ok (.putfield 160, 3) := by decide +kernel
theorem dX10_undo_25 : decode cX10_undo 25 = .ok (.iconst 0, 1) := by decide +kernel
theorem dX10_undo_26 : decode cX10_undo 26 = .ok (.istore_n 1, 1) := by decide +kernel
theorem dX10_undo_27 : decode cX10_undo 27 = .ok (.iload_n 1, 1) := by decide +kernel
theorem dX10_undo_28 : decode cX10_undo 28 = .ok (.sipush 412, 3) := by decide +kernel
theorem dX10_undo_31 : decode cX10_undo 31 = .ok (.if_icmp .ge 30, 3) := by decide +kernel
theorem dX10_undo_34 : decode cX10_undo 34 = .ok (.aload_n 0, 1) := by decide +kernel
theorem dX10_undo_35 : decode cX10_undo 35 = .ok (.getfield 29, 3) := by decide +kernel
theorem dX10_undo_38 : decode cX10_undo 38 = .ok (.iload_n 1, 1) := by decide +kernel
theorem dX10_undo_39 : decode cX10_undo 39 = .ok (.aload_n 0, 1) := by decide +kernel
theorem dX10_undo_40 : decode cX10_undo 40 = .ok (.getfield 32, 3) := by decide +kernel
theorem dX10_undo_43 : decode cX10_undo 43 = .ok (.sipush 412, 3) := by decide +kernel
theorem dX10_undo_46 : decode cX10_undo 46 = .ok (.aload_n 0, 1) := by decide +kernel
theorem dX10_undo_47 : decode cX10_undo 47 = .ok (.getfield 160, 3) := by decide +kernel
theorem dX10_undo_50 : decode cX10_undo 50 = .ok (.imul, 1) := by decide +kernel
theorem dX10_undo_51 : decode cX10_undo 51 = .ok (.iload_n 1, 1) := by decide +kernel
theorem dX10_undo_52 : decode cX10_undo 52 = .ok (.iadd, 1) := by decide +kernel
theorem dX10_undo_53 : decode cX10_undo 53 = .ok (.iaload, 1) := by decide +kernel
theorem dX10_undo_54 : decode cX10_undo 54 = .ok (.iastore, 1) := by decide +kernel
theorem dX10_undo_55 : decode cX10_undo 55 = .ok (.iinc 1 1, 3) := by decide +kernel
theorem dX10_undo_58 : decode cX10_undo 58 = .ok (.goto (-31), 3) := by decide +kernel
theorem dX10_undo_61 : decode cX10_undo 61 = .ok (.aload_n 0, 1) := by decide +kernel
theorem dX10_undo_62 : decode cX10_undo 62 = .ok (.getfield 160, 3) := by decide +kernel
theorem dX10_undo_65 : decode cX10_undo 65 = .ok (.ireturn, 1) := by decide +kernel
def fn_X10_undo_27 (N : Nat) : Nat → Mem → Nat → Int32 → Option (Int32 × Mem)
  | 0, _, _, _ => none
  | n + 1, M, a0, x1 =>
    if 412 ≤ x1 then
      (mm_gI M a0 10 18).bind fun v1 =>
      some (v1, M)
    else
      (mm_gR M a0 10 16).bind fun b2 =>
      (mm_gR M a0 10 17).bind fun b3 =>
      (mm_gI M a0 10 18).bind fun v4 =>
      (mm_aI M b3 0 ((412 * v4) + x1)).bind fun v5 =>
      (mm_sI M b2 0 x1 v5).bind fun M6 =>
      fn_X10_undo_27 N n M6 a0 ((x1 + 1))
set_option maxRecDepth 100000 in
set_option maxHeartbeats 4000000 in
theorem bk_X10_undo_27 {Γ : Gm} {ω : Wd} {k N : Nat} {r : Int32} {M' : Mem} (C : Cx Γ cX10_undo 2 RX10 ω 0 0 0) (hr : Γ.meth.sig.returnType = (some .int)) : ∀ (n : Nat) (M : Mem) (a0 : Nat) (x1 : Int32), fn_X10_undo_27 N n M a0 x1 = some (r, M') → JJ Γ (QF Γ ω k 0 0 (some (.int r)) M') 2 ω k M 0 0 27 [(0, .ref a0), (1, .int x1)] [] := by
  intro n
  induction n with
  | zero => intro M a0 x1 h; exact jv_no h
  | succ n ih =>
    intro M a0 x1 h
    rw [fn_X10_undo_27.eq_2] at h
    refine jv_iload_n C dX10_undo_27 rfl 1 rfl ?_
    refine jv_sipush (v := 412) C dX10_undo_28 (by decide) ?_
    refine jv_icmp_ge (tgt := 61) C dX10_undo_31 (by decide) h (fun h => ?_) (fun h => ?_)
    · refine jv_aload_n C dX10_undo_61 rfl 0 rfl ?_
      refine jv_getI C fa_X10_160 dX10_undo_62 h (fun v1 h => ?_)
      exact jv_iret C hr dX10_undo_65 h
    · refine jv_aload_n C dX10_undo_34 rfl 0 rfl ?_
      refine jv_getR C fa_X10_29 dX10_undo_35 h (fun b2 h => ?_)
      refine jv_iload_n C dX10_undo_38 rfl 1 rfl ?_
      refine jv_aload_n C dX10_undo_39 rfl 0 rfl ?_
      refine jv_getR C fa_X10_32 dX10_undo_40 h (fun b3 h => ?_)
      refine jv_sipush (v := 412) C dX10_undo_43 (by decide) ?_
      refine jv_aload_n C dX10_undo_46 rfl 0 rfl ?_
      refine jv_getI C fa_X10_160 dX10_undo_47 h (fun v4 h => ?_)
      refine jv_imul C dX10_undo_50 ?_
      refine jv_iload_n C dX10_undo_51 rfl 1 rfl ?_
      refine jv_iadd C dX10_undo_52 ?_
      refine jv_iald C dX10_undo_53 h (fun v5 h => ?_)
      refine jv_iast C dX10_undo_54 h (fun M6 h => ?_)
      refine jv_iinc (v := 1) (lv' := [(1, .int (x1 + 1)), (0, .ref a0)]) C dX10_undo_55 1 rfl (by decide) (by decide) rfl ?_
      refine jv_goto (tgt := 27) C dX10_undo_58 (by decide) ?_
      refine jv_sub [1, 0] rfl ?_
      exact ih _ _ _ h
def fn_X10_undo (N : Nat) (M : Mem) (a0 : Nat) : Option (Int32 × Mem) :=
  (mm_pV M a0 10 0 (.int 0)).bind fun M1 =>
  (mm_gI M1 a0 10 18).bind fun v2 =>
  if v2 = 0 then
    some ((-2), M1)
  else
    (mm_gI M1 a0 10 18).bind fun v3 =>
    (mm_pV M1 a0 10 18 (.int (v3 - 1))).bind fun M4 =>
    fn_X10_undo_27 N N M4 a0 0
set_option maxRecDepth 100000 in
set_option maxHeartbeats 4000000 in
theorem ct_X10_undo {l : Launch} {ω : Wd} {k N : Nat} {M : Mem} {a0 : Nat} {r : Int32} {M' : Mem} (h : fn_X10_undo N M a0 = some (r, M')) : CM l ω k yX10_undo cX10_undo 2 (some .int) 0 0 0 [.ref a0] M (some (.int r)) M' := by
  refine CM.of (by decide) (Nat.le_of_ble_eq_true rfl) fun Γ hl C hr hi => ?_
  subst hl
  unfold fn_X10_undo at h
  refine jv_aload_n C dX10_undo_0 rfl 0 rfl ?_
  refine jv_iconst (v := 0) C dX10_undo_1 (by decide) ?_
  refine jv_putI C fp_X10_58 dX10_undo_2 h (fun M1 h => ?_)
  refine jv_aload_n C dX10_undo_5 rfl 0 rfl ?_
  refine jv_getI C fa_X10_160 dX10_undo_6 h (fun v2 h => ?_)
  refine jv_if_ne (tgt := 15) C dX10_undo_9 (by decide) h (fun h => ?_) (fun h => ?_)
  · refine jv_aload_n C dX10_undo_15 rfl 0 rfl ?_
    refine jv_dup C dX10_undo_16 rfl ?_
    refine jv_getI C fa_X10_160 dX10_undo_17 h (fun v3 h => ?_)
    refine jv_iconst (v := 1) C dX10_undo_20 (by decide) ?_
    refine jv_isub C dX10_undo_21 ?_
    refine jv_putI C fp_X10_160 dX10_undo_22 h (fun M4 h => ?_)
    refine jv_iconst (v := 0) C dX10_undo_25 (by decide) ?_
    refine jv_istore_n (lv' := [(1, .int 0), (0, .ref a0)]) C dX10_undo_26 rfl (by decide) rfl ?_
    refine jv_sub [1, 0] rfl ?_
    exact bk_X10_undo_27 C hr _ _ _ _ h
  · refine jv_bipush (v := (-2)) C dX10_undo_12 (by decide) ?_
    exact jv_iret C hr dX10_undo_14 h
